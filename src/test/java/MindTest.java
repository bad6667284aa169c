import java.math.BigInteger;
import java.util.LinkedHashMap;
import java.util.Map;
import java.util.function.ToIntFunction;

/** Each sentence of part II of the document's terms, of THE IMAGE and of REFUSALS, at its boundaries. */
public final class MindTest extends Sentences {
    private static final int LEAST = Integer.MIN_VALUE;
    private static final int GREATEST = Integer.MAX_VALUE;

    public static void main(String[] args) {
        nothingChanges();
        days();
        rest();
        most();
        choices();
        gap();
        feast();
        begins();
        helps();
        laws();
        books();
        told();
        seeds();
        image();
        refusalsInOrder();
        refusals();
        allHeld("==== II.", "1000000000 less them.");
        finish();
    }

    private static Map<String, ToIntFunction<GaveTheDayBefore>> callsInMind() {
        Map<String, ToIntFunction<GaveTheDayBefore>> calls = new LinkedHashMap<>();
        calls.put("after(0, 60)", x -> x.after(0, 60));
        calls.put("all(60)", x -> x.all(60));
        calls.put("enough(0, 9999)", x -> x.enough(0, 9999));
        calls.put("richest(60)", x -> x.richest(60));
        calls.put("lost(60)", x -> x.lost(60));
        calls.put("grows(60)", x -> x.grows(60));
        calls.put("rest()", x -> x.rest());
        calls.put("most(0, 6)", x -> x.most(0, 6));
        calls.put("choice(0, 6, 0)", x -> x.choice(0, 6, 0));
        calls.put("gap(0, 6)", x -> x.gap(0, 6));
        calls.put("feast(0, 6, 9)", x -> x.feast(0, 6, 9));
        calls.put("begins()", x -> x.begins());
        calls.put("helps()", x -> x.helps());
        calls.put("byLaw(5, 0, 60)", x -> x.byLaw(5, 0, 60));
        calls.put("byBack(5, 0, 60)", x -> x.byBack(5, 0, 60));
        calls.put("leastLaw(0, 60)", x -> x.leastLaw(0, 60));
        calls.put("found(0)", x -> x.row(0) + x.row(9999) + x.found(0));
        calls.put("judge(0)", x -> x.row(x.after(0, 1)) + x.row(9999) + x.judge(0));
        calls.put("told()", x -> x.row(0) + x.row(1) + x.row(1) + x.row(0) + x.row(1) + x.row(9999) + x.told());
        calls.put("seeds(20, 7)", x -> x.seeds(20, 7));
        return calls;
    }

    /** Whatever was in mind before, a call is answered as in an object in which nothing was. */
    private static void fromNow(Map<String, ToIntFunction<GaveTheDayBefore>> calls) {
        for (String first : calls.keySet()) {
            for (String second : calls.keySet()) {
                GaveTheDayBefore x = lively();
                calls.get(first).applyAsInt(x);
                due(second + " behind " + first, calls.get(second).applyAsInt(changed(x)), calls.get(second).applyAsInt(changed(lively())));
            }
        }
    }

    private static GaveTheDayBefore changed(GaveTheDayBefore x) {
        x.day();
        x.put(0, 0, 40);
        x.put(1, 1, 20);
        return x;
    }

    private static void nothingChanges() {
        terms(11, "==== II. All that follows is in mind, from now", () -> {
            Map<String, ToIntFunction<GaveTheDayBefore>> calls = callsInMind();
            for (String call : calls.keySet()) inMind(call, calls.get(call));
            fromNow(calls);
        });
        terms(11, "(what was given by hand this morning stays given).", () -> {
            GaveTheDayBefore x = of("p1098,0;p7090,0;");
            x.give(0, 1, 5);
            due("after(0, 0)", x.after(0, 0), 3);
            due("the other one carries it home", x.after(1, 1), 5);
            due("it counts as given", x.byLaw(0, 0, 1), 0);
            x.put(0, 1, 99);
            due("LEAVE of 5 by hand and 3 by KIND", x.after(0, 2), 8);
            due("MOST: it HAS no more to give", x.feast(0, 1, 4), 0);
            row(x, 0, 9, 4);
            due("TOLD", x.told(), 0);
        });
    }

    private static void days() {
        terms(11, "AFTER n DAYS (0 .. 60) by KINDS: what one HAS.", () -> {
            GaveTheDayBefore x = pair();
            due("after(0, 0)", x.after(0, 0), 4);
            due("after(1, 0)", x.after(1, 0), 10);
            for (int n = 1; n <= 60; n++) {
                due("after(0, " + n + ")", x.after(0, n), 4 + n);
                due("after(1, " + n + ")", x.after(1, n), n % 2 == 1 ? 1 : 3);
            }
            due("after(0, -1)", x.after(0, -1), -4);
            due("after(0, 61)", x.after(0, 61), -6);
        });
        terms(12, "ALL: what all HAVE together then.", () -> {
            GaveTheDayBefore x = pair();
            due("all(0)", x.all(0), 14);
            due("all(1)", x.all(1), 6);
            due("all(60)", x.all(60), 67);
            due("nobody", new GaveTheDayBefore().all(60), 0);
            GaveTheDayBefore y = of("p0099999,0;p0099999,0;p0099999,0;p0099999,0;p0099999,0;");
            due("more than one can HAVE", y.all(1), 5 * 9999);
        });
        terms(13, "ENOUGH: the least n (0 .. 60) so that behind n DAYS one HAS as much as told; -9.", () -> {
            GaveTheDayBefore x = pair();
            due("nothing", x.enough(0, 0), 0);
            due("as much as now", x.enough(0, 4), 0);
            due("one more", x.enough(0, 5), 1);
            due("behind 60", x.enough(0, 64), 60);
            due("behind 61", x.enough(0, 65), -9);
            due("it HAS enough now alone", x.enough(1, 10), 0);
            due("never", x.enough(1, 11), -9);
            due("more than told", of("p7090,99;").enough(0, 100), 2);
        });
        terms(14, "RICHEST behind n DAYS: who HAS most, of several the least.", () -> {
            due("now", pair().richest(0), 1);
            due("behind 1", pair().richest(1), 0);
            due("behind 60", pair().richest(60), 0);
            GaveTheDayBefore x = of("p0093,0;p0095,0;p0094,1;");
            due("the one who HAS most", x.richest(0), 1);
            due("of two the least", x.richest(1), 1);
            due("the other one then", x.richest(2), 2);
            due("all HAVE 0", of("p0090,0;p0090,0;").richest(60), 0);
        });
        terms(15, "LOST: how much is lost in n DAYS by all together (in EVENINGS).", () -> {
            GaveTheDayBefore x = pair();
            int[] lost = {0, 11, 11, 15, 15, 19};
            for (int n = 0; n < lost.length; n++) due("lost(" + n + ")", x.lost(n), lost[n]);
            due("lost(60)", x.lost(60), 11 + 29 * 4);
            due("what takers got is not lost", of("p10999,0;").lost(60), 0);
            due("above 9999", of("p7009999,99;p7019998,3;").lost(1), 99 + 2);
            GaveTheDayBefore y = of("p0095,0;p0090,0;");
            y.give(0, 1, 5);
            due("of what was given by hand this morning", y.lost(1), 4);
            y.evening();
            due("what was lost before is not told", y.lost(60), 0);
            due("nobody", new GaveTheDayBefore().lost(60), 0);
        });
        terms(16, "GROWS: whether ALL behind n DAYS (1 .. 60) is more than now: 1, as much: 0, less: -1 (as -1 told: 2).", () -> {
            due("more behind 1", of("p0091,1;").grows(1), 1);
            due("more behind 60", of("p0091,1;").grows(60), 1);
            due("as much", of("p0091,0;").grows(60), 0);
            due("less", of("p1091,0;").grows(1), 2);
            due("less by 5, more by 6", of("p1095,0;p0090,1;").grows(4), 2);
            due("as much again", of("p1095,0;p0090,1;").grows(5), 0);
            due("more then", of("p1095,0;p0090,1;").grows(6), 1);
            due("nobody", new GaveTheDayBefore().grows(60), 0);
            GaveTheDayBefore x = of("p0095,0;p0090,0;");
            x.give(0, 1, 5);
            due("what is LYING, nobody HAS now", x.grows(1), 1);
        });
    }

    private static void rest() {
        terms(17, "REST: the least n (0 .. 58) so that behind n, behind n and 1, behind n and 2 DAYS each HAS as much; -9.", () -> {
            due("nobody", new GaveTheDayBefore().rest(), 0);
            due("at once", of("p00999,0;").rest(), 0);
            due("behind 1", of("p10999,0;").rest(), 1);
            due("58: 9999 behind 58, 59 and 60", of("p0099941,1;").rest(), 58);
            due("59 would be too far", of("p0099940,1;").rest(), -9);
            due("two evenings alike are not enough", of("p71964,0;").rest(), 11);
            due("three are", of("p72964,0;").rest(), 1);
            due("each, not the first alone", of("p00999,0;p0099990,1;").rest(), 9);
            due("each, not ALL together", of("p4095,0;p4093,0;").rest() == 0 ? 0 : 1, 1);
            due("six", of("p0090,0;p0090,0;p0090,0;p0090,0;p0090,0;p1095,0;").rest(), 1);
            GaveTheDayBefore x = of("p1095,0;");
            x.put(0, 0, 0);
            due("from now", x.rest(), 0);
            due("never", pair().rest(), -9);
        });
    }

    private static GaveTheDayBefore thiefAnd(int kind, int to) {
        GaveTheDayBefore x = of("p70924,0;p" + kind + "0010,0;p0090,0;l230;");
        x.put(0, 2, 1);
        x.put(1, 2, to);
        x.set(3, 0);
        return x;
    }

    private static void most() {
        terms(18, "MOST of one in n DAYS (1 .. 6): others by KINDS;", () -> {
            GaveTheDayBefore x = of("p00910,0;p2008,0;");
            due("most(0, 1), 1 of 4 got", x.most(0, 1), 11);
            due("most(0, 2), 1 of 2 got, too", x.most(0, 2), 12);
            due("most(0, 6)", x.most(0, 6), 13);
            due("most(0, 0)", x.most(0, 0), -4);
            due("most(0, 7)", x.most(0, 7), -6);
            due("of one who finds, 6 DAYS by TWICE", finder().most(0, 6), 50);
            GaveTheDayBefore six = of("p0090,0;p1001,0;p1001,0;p1001,0;p1001,0;p1001,0;");
            six.set(3, 99);
            due("of the first of six", six.most(0, 1), 5);
            due("of the last of six", six.most(5, 1), 1);
        });
        terms(18, "it gives in each of them nothing, half (cut), or all of what it HAS", () -> {
            GaveTheDayBefore x = of("p0095,99;l230;");
            x.set(3, 0);
            due("nothing", x.most(0, 1), 5);
            // Half of 5 is 2: it HAS 3, then LEAVE 4. All of 5: it HAS 0, then LEAVE 10.
            due("all, then nothing", x.most(0, 2), 10);
            x.put(0, 1, 4);
            due("half cut, then nothing", x.most(0, 2), 7);
            due("what half gives", x.feast(0, 2, 7), 2);
            x.put(0, 0, 1);
            due("half of 1 is nothing", x.feast(0, 2, 2), 1);
            due("in each of them", of("p2098,0;").most(0, 6), 8);
        });
        terms(18, "(TO, if that is not itself; else to takers),", () -> {
            // TO the THIEF 5 of 10: it HAS 17, gives 8 back. To takers: it HAS 12, gives 6.
            due("TO another one", thiefAnd(0, 0).most(1, 2), 13);
            due("TO takers", thiefAnd(0, 9).most(1, 2), 11);
            due("TO itself: to takers", thiefAnd(0, 1).most(1, 2), 11);
            for (int kind = 0; kind <= 6; kind++) due("KIND " + kind + ", its TO", thiefAnd(kind, 0).most(1, 2), 13);
        });
        terms(18, "by its own number in order:", () -> {
            GaveTheDayBefore first = of("p00910,20;p00050,0;p71930,9;l230;");
            GaveTheDayBefore last = of("p00950,0;p71930,9;p00910,20;l230;");
            first.put(0, 2, 2);
            first.put(2, 2, 0);
            last.put(2, 2, 1);
            last.put(1, 2, 2);
            for (int n = 1; n <= 6; n++) due("as the first and as the last, n " + n, first.most(0, n), last.most(2, n));
        });
        terms(18, "the most it can have behind n DAYS;", () -> {
            GaveTheDayBefore x = finder();
            due("n 1", x.most(0, 1), 11);
            due("n 2", x.most(0, 2), 21);
            due("n 3", x.most(0, 3), 22);
            due("9999 at most", of("p0099999,99;l230;").most(0, 6), 9999);
            due("nothing at all", of("p0090,0;").most(0, 6), 0);
        });
    }

    private static void choices() {
        terms(19, "the i-th choice (0 nothing, 1 half, 2 all) of the first best row (by choices).", () -> {
            GaveTheDayBefore x = finder();
            due("2 all", x.choice(0, 2, 0), 2);
            due("0 nothing", x.choice(0, 2, 1), 0);
            due("1 half", thiefAnd(0, 0).choice(1, 2, 0), 1);
            int[] best = {1, 2, 2, 2, 1, 0};
            for (int i = 0; i < 6; i++) due("choice(0, 6, " + i + ")", x.choice(0, 6, i), best[i]);
            due("choice(0, 6, 6)", x.choice(0, 6, 6), -9);
            x.put(0, 1, 3);
            // All rows that begin with a gift have less: 10, 11, 12 by nothing.
            due("of several rows the first", x.choice(0, 2, 0), 0);
            x.put(0, 1, 9);
            // Half: 5 + 1, then 9 of 10. All: 0 + 1, then 9 of 20.
            due("half is as good as it gets", x.choice(0, 2, 0), 1);
            GaveTheDayBefore poor = of("p0090,0;");
            for (int i = 0; i < 6; i++) due("one who HAS nothing, " + i, poor.choice(0, 6, i), 0);
            GaveTheDayBefore one = of("p0091,99;");
            one.set(3, 0);
            due("as much by nothing as by all", one.choice(0, 2, 0), 0);
        });
    }

    private static void gap() {
        terms(20, "GAP: MOST less AFTER", () -> {
            GaveTheDayBefore x = finder();
            due("n 1", x.gap(0, 1), 0);
            due("n 2", x.gap(0, 2), 21 - 12);
            due("n 6", x.gap(0, 6), 50 - 16);
            for (int n = 1; n <= 6; n++) due("n " + n, x.gap(0, n), x.most(0, n) - x.after(0, n));
        });
        terms(20, "(may not be below 0 if it is one of KINDS 0, 1, 2;", () -> {
            for (int kind = 0; kind <= 2; kind++) {
                for (int law = 0; law <= 5; law++) {
                    GaveTheDayBefore x = of("p70924,3;p" + kind + "2019,7;p61040,5;l" + law + "21;");
                    x.put(0, 2, 1);
                    for (int to : new int[] {0, 1, 2, 9}) {
                        x.put(1, 2, to);
                        for (int n = 1; n <= 4; n++) due("KIND " + kind + ", LAW " + law + ", TO " + to + ", n " + n, Math.min(x.gap(1, n), 0), 0);
                    }
                }
            }
        });
        terms(20, "else it may be below 0).", () -> {
            // The GROW gives back the 3 it got and may carry home the THIEF's 6: 7 + 6. By choices it has 11 at most.
            GaveTheDayBefore x = of("p3099,0;p71015,0;l230;");
            x.give(1, 0, 3);
            x.evening();
            due("AFTER", x.after(0, 2), 13);
            due("MOST", x.most(0, 2), 11);
            due("GAP", x.gap(0, 2), -2);
        });
    }

    private static void feast() {
        terms(21, "FEAST: of all rows of n such choices by which one HAS as much as told behind n DAYS the least sum given; -9.", () -> {
            GaveTheDayBefore x = finder();
            due("as much as by nothing", x.feast(0, 2, 12), 0);
            due("one more: half", x.feast(0, 2, 13), 5);
            due("as much as by half", x.feast(0, 2, 16), 5);
            due("one more: all", x.feast(0, 2, 17), 10);
            due("as much as by all", x.feast(0, 2, 21), 10);
            due("one more", x.feast(0, 2, 22), -9);
            due("told 0", x.feast(0, 6, 0), 0);
            due("told 9999", x.feast(0, 6, 9999), -9);
            due("n 1", x.feast(0, 1, 11), 0);
            due("n 1, one more", x.feast(0, 1, 12), -9);
            // The first best row gives 5, 6, 10, 12, 10, 0: 43; all, nothing, half, all, half, nothing gives 10, 0, 10, 12, 10, 0.
            due("n 6, MOST", x.feast(0, 6, 50), 42);
            due("n 6, more than MOST", x.feast(0, 6, 51), -9);
        });
    }

    private static void begins() {
        terms(22, "BEGINS: who can't begin (bits): who HAS 0,", () -> {
            due("nobody", new GaveTheDayBefore().begins(), 0);
            due("six", of("p0090,0;p0090,0;p0090,0;p0090,0;p0090,0;p0090,0;").begins(), 63);
            due("the first and the third", of("p0090,0;p0091,0;p0090,0;p0099999,0;").begins(), 1 + 4);
        });
        terms(22, "whose FINDS are 0 or whose LEAVE is 0,", () -> {
            GaveTheDayBefore x = of("p0090,1;p0090,0;p7090,1;p7090,0;");
            due("LEAVE 1", x.begins(), 2 + 8);
            x.set(3, 99);
            due("LEAVE 99", x.begins(), 2 + 8);
            x.set(3, 0);
            due("LEAVE 0", x.begins(), 1 + 2 + 8);
            x.put(0, 0, 1);
            x.give(0, 9, 1);
            x.evening();
            due("LEAVE 1 of what was given", x.begins(), 2 + 8);
        });
        terms(22, "and of whom no other one that HAS something has that one as TO", () -> {
            GaveTheDayBefore x = of("p0090,0;p0001,0;p6010,0;");
            due("1 HAS 1 and has 0 as TO", x.begins(), 4);
            x.put(1, 0, 0);
            due("1 HAS 0", x.begins(), 1 + 2 + 4);
            x.put(2, 0, 1);
            due("the SAINT HAS 1 and has 1 as TO", x.begins(), 1);
            x.evening();
            due("and on an odd DAY", x.begins(), 1);
            due("itself is no other one", of("p0000,0;").begins(), 1);
            GaveTheDayBefore giver = of("p1000,0;p0090,0;");
            due("TO itself", giver.begins(), 1 + 2);
        });
        terms(22, "(ROUND: as the next one, gone round).", () -> {
            GaveTheDayBefore x = of("p0090,0;p4001,0;p0090,0;");
            due("the next one", x.begins(), 1);
            GaveTheDayBefore last = of("p0090,0;p0090,0;p4011,0;");
            due("gone round", last.begins(), 2);
            due("TO itself", of("p4001,0;p0090,0;").begins(), 0);
            due("alone", of("p4090,0;").begins(), 1);
        });
    }

    private static void helps() {
        terms(23, "HELPS: of those who HAVE more than as many as can't begin who HAS most,", () -> {
            due("HAS 2, two can't", of("p0092,0;p0090,0;p0090,0;").helps(), -9);
            due("HAS 3, two can't", of("p0093,0;p0090,0;p0090,0;").helps(), 0);
            due("who HAS most", of("p0093,0;p0090,0;p0094,0;p0090,0;").helps(), 2);
            due("HAS 1, one can't", of("p0091,0;p0090,0;").helps(), -9);
            due("HAS 2, one can't", of("p0092,0;p0090,0;").helps(), 0);
        });
        terms(23, "of several the least;", () -> {
            due("1 and 2", of("p0090,0;p0094,0;p0094,0;p0093,0;").helps(), 1);
            due("0 and 3", of("p0094,0;p0090,0;p0093,0;p0094,0;").helps(), 0);
        });
        terms(23, "-9 none, or all begin.", () -> {
            due("none HAS more", of("p0091,0;p0090,0;p0090,0;").helps(), -9);
            due("none HAS anything", of("p0090,0;").helps(), -9);
            due("all begin", of("p0099,0;p0098,0;").helps(), -9);
            due("nobody", new GaveTheDayBefore().helps(), -9);
        });
    }

    private static void laws() {
        terms(24, "BY LAW: AFTER by another LAW.", () -> {
            GaveTheDayBefore x = of("p04999,99;");
            x.give(0, 9, 9);
            x.evening();
            int[] carried = {9, 5, 18, 9, 9, 9};
            for (int law = 0; law <= 5; law++) due("LAW " + law + ", n 1", x.byLaw(law, 0, 1), 91 + carried[law]);
            for (int law = 0; law <= 5; law++) due("LAW " + law + ", n 0", x.byLaw(law, 0, 0), 91);
            due("the LAW of now", x.byLaw(0, 0, 60), x.after(0, 60));
            due("the LAW stays", x.set(0, 0), 0);
        });
        terms(25, "BY BACK: AFTER by another BACK.", () -> {
            GaveTheDayBefore x = of("p00999,99;p00999,0;");
            x.give(1, 0, 1);
            evenings(x, 5);
            x.put(0, 0, 50);
            x.give(0, 1, 30);
            x.evening();
            int home = x.person(0, 3);
            for (int back = 0; back <= 4; back++) due("BACK " + back + " does not look so far", x.byBack(back, 0, 1), home + 30);
            due("BACK 5 does", x.byBack(5, 0, 1), home + 1);
            due("n 0", x.byBack(5, 0, 0), home);
            due("BACK stays", x.set(2, 0), 0);
        });
        terms(26, "LEAST LAW: the LAW 0 .. 5 by which one HAS least behind n DAYS, of several the least.", () -> {
            GaveTheDayBefore x = of("p04999,99;");
            x.give(0, 9, 9);
            x.evening();
            due("HALVED", x.leastLaw(0, 1), 1);
            due("n 0: all alike", x.leastLaw(0, 0), 0);
            x.evening();
            due("ONCE, HALVED, TWICE alike", x.leastLaw(0, 1), 0);
            // By DEAR 0 carries 3 home, not 1, and gives it to 1, who gives as much away a day later: 16, else 18.
            GaveTheDayBefore dear = of("p4790,3;p51917,0;");
            due("DEAR", dear.leastLaw(1, 3), 5);
            due("from another LAW, too", dear.set(0, 5) + dear.leastLaw(1, 3), 5);
            due("n 60", of("p7999,0;").leastLaw(0, 60), 0);
        });
    }

    private static void books() {
        terms(27, "BOOK: a ROW of numbers (0 .. 9999; 12 at most):", () -> {
            GaveTheDayBefore x = of("p0099999,0;");
            due("-1", x.row(-1), -4);
            due("10000", x.row(10000), -6);
            due("0", x.row(0), 1);
            for (int i = 2; i <= 12; i++) due("9999", x.row(9999), i);
            due("the 13th", x.row(9999), -6);
            due("FOUND of 12", x.found(0), -9);
        });
        terms(28, "what one is told to HAVE on evenings from now on, by KINDS:", () -> {
            GaveTheDayBefore x = pair();
            row(x, 1, 3, 1, 3, 1, 3, 1, 3, 1, 3, 1, 3);
            due("the first is this evening's", x.judge(1), -9);
            row(x, 5, 6, 7, 8, 9, 10, 11, 12, 13, 14, 15, 16);
            due("12 evenings", x.judge(0), -9);
            row(x, 5, 6, 7, 8, 9, 10, 11, 12, 13, 14, 15, 17);
            due("the last of 12", x.judge(0), 11);
        });
        terms(28, "FOUND: the place of the first that is more than what it HAS then; -9;", () -> {
            GaveTheDayBefore x = pair();
            row(x, 5, 6, 7);
            due("as much", x.found(0), -9);
            row(x, 4, 0, 6);
            due("less", x.found(0), -9);
            row(x, 6, 6, 9);
            due("the first", x.found(0), 0);
            row(x, 4, 6, 8, 9, 9);
            due("the third", x.found(0), 2);
            due("of an empty ROW", x.found(0), -9);
        });
        terms(29, "JUDGED: the first that is not as much; -9.", () -> {
            GaveTheDayBefore x = pair();
            row(x, 5, 6, 7);
            due("as much", x.judge(0), -9);
            row(x, 5, 5, 8);
            due("less", x.judge(0), 1);
            row(x, 5, 7, 6);
            due("more", x.judge(0), 1);
            row(x, 4);
            due("what it HAS now", x.judge(0), 0);
            due("of an empty ROW", x.judge(0), -9);
        });
    }

    private static int toldOf(int... numbers) {
        GaveTheDayBefore x = pair();
        row(x, numbers);
        return x.told();
    }

    private static void told() {
        terms(30, "GIFTS by hand (a ROW, by threes WHO, TO, n):", () -> {
            due("WHO, TO, n", toldOf(1, 0, 10), -9);
            due("to takers", toldOf(0, 9, 4), -9);
            due("four GIFTS", toldOf(0, 1, 1, 0, 1, 1, 0, 1, 1, 0, 1, 1), -9);
        });
        terms(30, "TOLD: the place (of WHO) of the first that can't be given now, one behind the other;", () -> {
            due("WHO is nobody", toldOf(2, 0, 1), 0);
            due("WHO is takers", toldOf(9, 0, 1), 0);
            due("TO is nobody", toldOf(0, 2, 1), 0);
            due("TO itself", toldOf(0, 0, 1), 0);
            due("n 0", toldOf(0, 1, 0), 0);
            due("more than it HAS", toldOf(0, 1, 5), 0);
            due("more than it HAS left", toldOf(0, 1, 3, 0, 9, 2), 3);
            due("as much as it HAS left", toldOf(0, 1, 3, 0, 9, 1), -9);
            due("what is LYING can't be given", toldOf(1, 0, 10, 0, 1, 5), 3);
            due("the fourth", toldOf(0, 1, 1, 0, 1, 1, 0, 1, 1, 0, 1, 2), 9);
            due("of several the first", toldOf(0, 1, 1, 0, 0, 1, 2, 2, 2), 3);
        });
        terms(30, "the size, if it is no multiple of 3 and all ahead can; -9.", () -> {
            due("of none", toldOf(), -9);
            due("of 1", toldOf(0), 1);
            due("of 2", toldOf(9, 9), 2);
            due("of 4", toldOf(0, 1, 4, 0), 4);
            due("of 11", toldOf(0, 1, 1, 0, 1, 1, 0, 1, 1, 0, 0), 11);
            due("of 5, one ahead can't", toldOf(0, 1, 5, 0, 1), 0);
        });
    }

    /** What n days bring to the first of so many, by the document's draws written with numbers of any size. */
    private static int[] drawn(int n, int seed, int people) {
        BigInteger turn = BigInteger.ONE.shiftLeft(32);
        BigInteger z = BigInteger.valueOf(seed);
        int[] found = new int[people];
        for (int i = 0; i < n; i++) {
            int[] draw = new int[2];
            for (int k = 0; k < 2; k++) {
                z = z.multiply(BigInteger.valueOf(1103515245)).add(BigInteger.valueOf(12345)).mod(turn);
                draw[k] = z.clearBit(31).divide(BigInteger.valueOf(65536)).intValue();
            }
            found[draw[0] % people] += draw[1] % 10;
        }
        return found;
    }

    private static void seeds() {
        int[] someSeeds = {0, 1, -1, 2, 7, 12345, -98765, LEAST, LEAST + 1, GREATEST, GREATEST - 1};
        terms(31, "SEEDS: n DAYS (1 .. 20) with a seed z by KINDS;", () -> {
            GaveTheDayBefore x = pair();
            due("seeds(0, 1)", x.seeds(0, 1), -4);
            due("seeds(21, 1)", x.seeds(21, 1), -6);
            // z 1: one of two is 16838 mod 2, which finds 5758 mod 10; by KINDS as ever then.
            due("seeds(1, 1)", x.seeds(1, 1), 6 + 8);
            for (int n = 1; n <= 20; n++) due("keepers, n " + n, of("p0090,0;").seeds(n, 5), drawn(n, 5, 1)[0]);
        });
        terms(31, "each morning first one (a DRAW below how many) finds a DRAW below 10", () -> {
            for (int seed : someSeeds) {
                for (int people = 2; people <= 6; people++) {
                    GaveTheDayBefore x = of("p0090,0;" + "p1090,0;".repeat(people - 1));
                    due(people + " people, the others give it to takers, seed " + seed, x.seeds(20, seed), drawn(20, seed, people)[0]);
                }
            }
        });
        terms(31, "(it HAS more, 9999 at most): ALL then.", () -> {
            int found = drawn(1, 1, 1)[0];
            due("finds 8 of 9991", found, 8);
            due("as much as 9999", of("p0099991,0;").seeds(1, 1), 9999);
            due("more than 9999", of("p0099992,0;").seeds(1, 1), 9999);
            due("of 9999", of("p0099999,0;").seeds(20, 1), 9999);
            due("ALL", of("p0099999,0;p0099999,0;").seeds(20, 1), 2 * 9999);
            due("it is given in the same morning", of("p1090,0;").seeds(1, 1), 0);
            GaveTheDayBefore x = of("p00950,0;");
            x.put(0, 0, 20);
            due("from now", x.seeds(1, 1), 28);
        });
        terms(31, "DRAWS: z becomes z times 1103515245 and 12345 (an int);", () -> {
            for (int seed : someSeeds) due("seed " + seed, of("p0090,0;").seeds(20, seed), drawn(20, seed, 1)[0]);
        });
        terms(31, "a DRAW below n is (z without its sign's bit by 65536, cut) modulo n.", () -> {
            // 1 becomes 1103527590 (16838), then -1770082073: without its sign's bit 377401575 (5758).
            due("a z below 0", of("p0090,0;").seeds(1, 1), 8);
            // 0 becomes 12345 (0), then -740551042: without its sign's bit 1406932606 (21468).
            due("a z below 65536", of("p0090,0;p1090,0;").seeds(1, 0), 8);
        });
    }

    private static void image() {
        terms(32, "THE IMAGE: all that there is, but it, letters, the ROW, REFUSALS.", () -> {
            GaveTheDayBefore x = lively();
            GaveTheDayBefore twin = lively();
            x.image();
            x.put(0, 0, 77);
            x.put(1, 1, 66);
            x.put(2, 2, 9);
            for (int what = 0; what <= 3; what++) x.set(what, 1);
            days(x, 7);
            x.feed('l');
            row(x, 3, 4);
            x.gives(6);
            due("restore()", x.restore(), 2);
            for (int p = 0; p < 3; p++) {
                for (int what = 0; what <= 8; what++) due("person(" + p + ", " + what + ")", x.person(p, what), twin.person(p, what));
                due("AFTER of " + p, x.after(p, 9), twin.after(p, 9));
                due("BY BACK of " + p, x.byBack(5, p, 9), twin.byBack(5, p, 9));
            }
            for (int what = 0; what <= 4; what++) due("count(" + what + ")", x.count(what), twin.count(what));
            due("letters", x.count(5), 1);
            due("the ROW", x.count(6), 2);
            due("REFUSALS", x.count(11), 1);
            int[] settings = {4, 3, 2, 2};
            for (int what = 0; what <= 3; what++) due("SETTING " + what, x.set(what, 1), settings[what]);
            due("it is there still", x.restore(), 2);
            due("LAW again", x.set(0, 1), 4);
        });
    }

    private static void refusalsInOrder() {
        terms(34, "REFUSALS (the call answers the number, the first that fits in the order in which it tells them;", () -> {
            refused(Sentences::busy, "person(3, 9)", x -> x.person(3, 9), -1);
            refused(Sentences::busy, "put(3, 3, -1)", x -> x.put(3, 3, -1), -1);
            refused(Sentences::busy, "put(0, 3, -1)", x -> x.put(0, 3, -1), -2);
            refused(Sentences::busy, "set(4, -1)", x -> x.set(4, -1), -2);
            refused(Sentences::busy, "give(3, 0, 0)", x -> x.give(3, 0, 0), -1);
            refused(Sentences::busy, "give(0, 0, 0)", x -> x.give(0, 0, 0), -1);
            refused(Sentences::busy, "give(0, 3, 10000)", x -> x.give(0, 3, 10000), -1);
            refused(Sentences::busy, "after(3, -1)", x -> x.after(3, -1), -1);
            refused(Sentences::busy, "enough(3, 10000)", x -> x.enough(3, 10000), -1);
            refused(Sentences::busy, "most(3, 0)", x -> x.most(3, 0), -1);
            refused(Sentences::busy, "choice(3, 7, -1)", x -> x.choice(3, 7, -1), -1);
            refused(Sentences::busy, "choice(0, 7, -1)", x -> x.choice(0, 7, -1), -4);
            refusedAs(Sentences::busy, "gap(3, 0)", x -> x.gap(3, 0), -1, 1000000001);
            refused(Sentences::busy, "feast(3, 0, 10000)", x -> x.feast(3, 0, 10000), -1);
            refused(Sentences::busy, "feast(0, 7, -1)", x -> x.feast(0, 7, -1), -4);
            refused(Sentences::busy, "feast(0, 0, 10000)", x -> x.feast(0, 0, 10000), -4);
            refused(Sentences::busy, "byLaw(6, 3, -1)", x -> x.byLaw(6, 3, -1), -2);
            refused(Sentences::busy, "byLaw(5, 3, -1)", x -> x.byLaw(5, 3, -1), -1);
            refused(Sentences::busy, "byBack(-1, 3, 61)", x -> x.byBack(-1, 3, 61), -1);
            refused(Sentences::busy, "byBack(6, 0, -1)", x -> x.byBack(6, 0, -1), -4);
            refused(Sentences::busy, "byBack(-1, 0, 61)", x -> x.byBack(-1, 0, 61), -4);
            refused(Sentences::busy, "leastLaw(3, 61)", x -> x.leastLaw(3, 61), -1);
            refused(GaveTheDayBefore::new, "seeds(0, 1) of nobody", x -> x.seeds(0, 1), -4);
            refused(GaveTheDayBefore::new, "seeds(21, 1) of nobody", x -> x.seeds(21, 1), -6);
        });
    }

    private static void refusals() {
        terms(34, "nothing changes but how many there were):", () -> {
            GaveTheDayBefore x = busy();
            for (int i = 1; i <= 50; i++) {
                x.gives(3);
                x.set(4, 0);
                x.row(-1);
                x.row(10000);
                due("REFUSALS -1", x.count(11), i);
            }
            due("REFUSALS -2", x.count(12), 50);
            due("REFUSALS -4", x.count(14), 50);
            due("REFUSALS -6", x.count(16), 50);
            due("the ROW", x.count(6), 4);
            refused(Sentences::busy, "put(0, 0, 10000)", y -> y.put(0, 0, 10000), -6);
        });
        terms(34, "-1 NOBODY: no such one.", () -> {
            for (int nobody : new int[] {3, 5, 6, 9, -1, LEAST, GREATEST}) {
                refused(Sentences::busy, "person(" + nobody + ", 0)", x -> x.person(nobody, 0), -1);
                refused(Sentences::busy, "gives(" + nobody + ")", x -> x.gives(nobody), -1);
                refused(Sentences::busy, "give(0, " + (nobody == 9 ? 8 : nobody) + ", 1)", x -> x.give(0, nobody == 9 ? 8 : nobody, 1), -1);
            }
            refused(GaveTheDayBefore::new, "gives(0)", x -> x.gives(0), -1);
        });
        terms(34, "-2 OTHER: what, LAW.", () -> {
            for (int other : new int[] {-1, 9, LEAST, GREATEST}) {
                refused(Sentences::busy, "person(0, " + other + ")", x -> x.person(0, other), -2);
                refused(Sentences::busy, "put(0, " + other + ", 0)", x -> x.put(0, other, 0), -2);
                refused(Sentences::busy, "set(" + other + ", 0)", x -> x.set(other, 0), -2);
                refused(Sentences::busy, "byLaw(" + other + ", 0, 0)", x -> x.byLaw(other, 0, 0), -2);
            }
        });
        terms(34, "-3 STATE: it is not as told.", () -> {
            refused(GaveTheDayBefore::new, "seeds(1, 1)", x -> x.seeds(1, 1), -3);
            refused(() -> of("p0091,0;"), "restore()", x -> x.restore(), -3);
        });
        terms(34, "-4 BELOW: a number below the least.", () -> {
            for (int below : new int[] {-1, LEAST}) {
                refused(Sentences::busy, "feed(" + below + ")", x -> x.feed(below), -4);
                refused(Sentences::busy, "row(" + below + ")", x -> x.row(below), -4);
                refused(Sentences::busy, "all(" + below + ")", x -> x.all(below), -4);
            }
        });
        terms(34, "-6 ROOM: a number above the greatest, no room.", () -> {
            refused(Sentences::busy, "feed(256)", x -> x.feed(256), -6);
            refused(Sentences::busy, "row(10000)", x -> x.row(10000), -6);
            refused(Sentences::busy, "all(61)", x -> x.all(61), -6);
            refused(Sentences::busy, "all(GREATEST)", x -> x.all(GREATEST), -6);
            refused(Sentences::fullOfLetters, "feed(0)", x -> x.feed(0), -6);
            refused(MindTest::fullOfNumbers, "row(0)", x -> x.row(0), -6);
        });
        terms(20, "Of gap() 1000000000 less them.", () -> {
            refusedAs(Sentences::busy, "gap(3, 1)", x -> x.gap(3, 1), -1, 1000000001);
            refusedAs(Sentences::busy, "gap(0, 0)", x -> x.gap(0, 0), -4, 1000000004);
            refusedAs(Sentences::busy, "gap(0, 7)", x -> x.gap(0, 7), -6, 1000000006);
        });
    }

    private static GaveTheDayBefore fullOfNumbers() {
        GaveTheDayBefore x = pair();
        row(x, 0, 1, 1, 0, 1, 1, 0, 1, 1, 0, 1, 1);
        return x;
    }
}
