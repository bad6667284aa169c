/** Each sentence of part I of the document's terms, at its boundaries, by the promise in which it can be seen. */
public final class TermsTest extends Sentences {
    public static void main(String[] args) {
        people();
        settings();
        counted();
        leave();
        leaveBounds();
        gifts();
        evening();
        dayByKinds();
        kinds();
        kindsByDay();
        landLetters();
        faultsOfLetters();
        faultsOfStatements();
        allHeld("PEOPLE 0 .. 5 as they come", "with one nothing.");
        finish();
    }

    private static void people() {
        terms(3, "PEOPLE 0 .. 5 as they come, of KINDS:", () -> {
            GaveTheDayBefore x = of("p0091,0;p0092,0;p0093,0;");
            due("three more", tell(x, "p0094,0;p0095,0;p0096,0;"), 3);
            for (int p = 0; p <= 5; p++) due("HAS of " + p, x.person(p, 3), p + 1);
            due("person(6, 3)", x.person(6, 3), -1);
            due("person(-1, 3)", x.person(-1, 3), -1);
            due("a seventh", tell(x, "p0097,0;"), -2000);
            due("count(0)", x.count(0), 6);
        });
        terms(3, "0 KEEPER; 1 GIVER under KEEPER; 2 HALF under GIVER; 3 GROW under KEEPER; 4 ROUND under GIVER; "
            + "5 SAVE under GROW; 6 SAINT under GIVER; 7 THIEF under HALF:", () -> {
            for (int kind = 0; kind <= 7; kind++) due("KIND " + kind, of("p" + kind + "090,0;").person(0, 0), kind);
            due("KIND 8", tell(new GaveTheDayBefore(), "p8090,0;"), -2000);
            due("KIND 9", tell(new GaveTheDayBefore(), "p9090,0;"), -2000);
        });
        terms(5, "each HAS units (0 .. 9999),", () -> {
            due("0 in letters", of("p0090,0;").person(0, 3), 0);
            due("9999 in letters", of("p0099999,0;").person(0, 3), 9999);
            GaveTheDayBefore x = of("p0095,0;");
            due("put(0, 0, 0)", x.put(0, 0, 0), 5);
            due("put(0, 0, 9999)", x.put(0, 0, 9999), 0);
            due("put(0, 0, -1)", x.put(0, 0, -1), -4);
            due("put(0, 0, 10000)", x.put(0, 0, 10000), -6);
            due("person(0, 3)", x.person(0, 3), 9999);
        });
        terms(5, "FINDS (0 .. 99 a day),", () -> {
            due("0 in letters", of("p0090,0;").person(0, 4), 0);
            due("99 in letters", of("p0090,99;").person(0, 4), 99);
            GaveTheDayBefore x = of("p7090,5;");
            due("put(0, 1, 0)", x.put(0, 1, 0), 5);
            due("put(0, 1, 99)", x.put(0, 1, 99), 0);
            due("put(0, 1, -1)", x.put(0, 1, -1), -4);
            due("put(0, 1, 100)", x.put(0, 1, 100), -6);
            evenings(x, 3);
            due("99 on each of three days", x.person(0, 3), 297);
        });
        terms(4, "a FIGURE (0 .. 9),", () -> {
            for (int figure = 0; figure <= 9; figure++) due("FIGURE " + figure, of("p0" + figure + "90,0;").person(0, 1), figure);
        });
        terms(9, "TO (to whom it gives: one of PEOPLE, or 9: takers, who keep it).", () -> {
            GaveTheDayBefore x = days(of("p0090,0;p1008,0;p1097,0;"), 1);
            due("LYING was for 0", x.person(0, 3), 1);
            due("8 given to 0", x.person(1, 8), 8);
            due("7 given to takers", x.person(2, 8), 7);
            GaveTheDayBefore y = of("p0095,0;p7095,0;");
            y.give(0, 9, 5);
            due("for nobody is LYING what takers got", y.count(3), 0);
            days(y, 3);
            due("takers keep it", y.person(0, 3), 0);
        });
    }

    private static void settings() {
        terms(6, "LAWS are KINDS (0 at first):", () -> {
            due("set(0, 5)", new GaveTheDayBefore().set(0, 5), 0);
            GaveTheDayBefore x = of("p0599,0;");
            due("LEAVE by ONCE", x.person(0, 6), 1);
        });
        terms(24, "0 ONCE; 1 HALVED under ONCE; 2 TWICE under ONCE; 3 DAYS under ONCE; 4 BEST under DAYS; 5 DEAR under HALVED.", () -> {
            GaveTheDayBefore x = of("p04999,99;");
            x.give(0, 9, 3);
            x.evening();
            x.give(0, 9, 8);
            x.evening();
            x.give(0, 9, 5);
            x.evening();
            int[] leave = {5, 3, 10, 16, 8, 7};
            for (int law = 0; law <= 5; law++) {
                due("byLaw(" + law + ", 0, 1)", x.byLaw(law, 0, 1) - x.person(0, 3), leave[law]);
                x.set(0, law);
                due("LEAVE by LAW " + law, x.person(0, 6), leave[law]);
            }
            due("byLaw(6, 0, 1)", x.byLaw(6, 0, 1), -2);
            due("byLaw(-1, 0, 1)", x.byLaw(-1, 0, 1), -2);
        });
        terms(6, "SETTINGS: 0 LAW (0 .. 5),", () -> range(0, 0, 5, 0));
        terms(6, "1 SPAN (1 .. 5; 3 at first),", () -> range(1, 1, 5, 3));
        terms(6, "2 BACK (0 .. 5; 0 at first),", () -> range(2, 0, 5, 0));
        terms(6, "3 FREE (0 .. 99; 1 at first).", () -> {
            range(3, 0, 99, 1);
            due("LEAVE at first", of("p0090,0;").person(0, 6), 1);
        });
        terms(34, "DAY (0 at first).", () -> {
            due("count(1)", new GaveTheDayBefore().count(1), 0);
            due("image()", new GaveTheDayBefore().image(), 0);
            due("day()", new GaveTheDayBefore().day(), 1);
        });
    }

    private static void range(int what, int least, int most, int first) {
        GaveTheDayBefore x = new GaveTheDayBefore();
        due("below the least, at first", x.set(what, least - 1), -4);
        due("above the greatest, at first", x.set(what, most + 1), -6);
        due("the least", x.set(what, least), first);
        for (int v = least; v < most; v++) due("set(" + what + ", " + (v + 1) + ")", x.set(what, v + 1), v);
        due("below the least", x.set(what, least - 1), -4);
        due("above the greatest", x.set(what, most + 1), -6);
        due("the greatest again", x.set(what, most), most);
    }

    private static void counted() {
        terms(4, "GIVEN of one on a day: all that it gave that day;", () -> {
            GaveTheDayBefore x = of("p0099,0;p0099,0;p0099,0;");
            due("nothing yet", x.person(0, 7), 0);
            x.give(0, 1, 1);
            x.give(0, 1, 1);
            x.give(0, 2, 2);
            x.give(0, 9, 3);
            x.give(1, 0, 5);
            due("to one twice, to another, to takers", x.person(0, 7), 7);
            x.evening();
            due("on another day", x.person(0, 7), 0);
            GaveTheDayBefore y = of("p1099,0;");
            y.give(0, 9, 4);
            y.day();
            due("by hand and by KIND", y.person(0, 8), 9);
        });
        terms(4, "COUNTED: GIVEN less what does not count:", () -> {
            GaveTheDayBefore x = of("p00999,0;p00999,0;p00999,0;l031;");
            x.give(0, 1, 7);
            x.give(0, 2, 20);
            x.give(0, 9, 30);
            x.give(1, 0, 5);
            x.evening();
            due("to another and to takers counts", x.person(0, 8), 50);
            due("all of it was given to who gave", x.person(1, 8), 0);
            due("who gave nothing", x.person(2, 8), 0);
        });
        terms(4, "of each day's gifts to somebody who gave to it on that day", () -> {
            GaveTheDayBefore x = of("p00999,0;p00999,0;l031;");
            x.give(0, 1, 7);
            x.give(1, 0, 1);
            x.give(0, 1, 8);
            x.evening();
            due("given ahead of it and behind it", x.person(0, 8), 0);
            due("of the other", x.person(1, 8), 0);
            GaveTheDayBefore kinds = of("p10950,0;p10040,0;l031;");
            kinds.put(0, 2, 1);
            kinds.day();
            due("by KINDS, the first", kinds.person(0, 8), 0);
            due("by KINDS, the second", kinds.person(1, 8), 0);
        });
        terms(4, "or on one of BACK days before it", () -> {
            for (int back = 1; back <= 5; back++) {
                due("given " + back + " days before, BACK " + back, countedBehind(back, back), 2);
                due("given " + (back + 1) + " days before, BACK " + back, countedBehind(back, back + 1), 9);
            }
            GaveTheDayBefore far = of("p00999,0;p00999,0;l355;");
            far.give(1, 0, 4);
            evenings(far, 5);
            far.give(0, 1, 7);
            far.give(0, 9, 2);
            evenings(far, 5);
            due("BACK 5 from the first of SPAN 5, 10 days before today", far.person(0, 6), 2);
            far.set(2, 4);
            due("BACK 4 from there", far.person(0, 6), 9);
            far.set(2, 5);
            due("BACK 5 again", far.person(0, 6), 2);
            GaveTheDayBefore x = of("p00999,0;p00999,0;l355;");
            x.give(0, 1, 7);
            x.evening();
            x.give(1, 0, 4);
            x.evening();
            due("what is given back later counts", x.person(0, 6), 7);
            due("what gives back does not", x.person(1, 6), 1);
        });
        terms(25, "(BACK 0: all count).", () -> {
            GaveTheDayBefore x = of("p00999,0;p00999,0;");
            x.give(1, 0, 3);
            x.evening();
            x.give(0, 1, 7);
            x.give(1, 0, 2);
            x.evening();
            due("BACK 0", x.person(0, 8), 7);
            due("BACK 0, the other", x.person(1, 8), 2);
            x.set(2, 1);
            due("BACK 1", x.person(0, 8), 0);
            x.set(2, 0);
            due("BACK 0 again", x.person(0, 8), 7);
        });
    }

    /** 1 gave to 0 so many days before 0 gives 7 to 1 and 2 to takers. */
    private static int countedBehind(int back, int days) {
        GaveTheDayBefore x = of("p00999,0;p00999,0;");
        x.set(2, back);
        x.give(1, 0, 4);
        evenings(x, days);
        x.give(0, 1, 7);
        x.give(0, 9, 2);
        x.evening();
        return x.person(0, 8);
    }

    /** LEAVE of one who has given so much to takers on the days up to yesterday; FREE is 0. */
    private static int leaveOf(int law, int span, int... given) {
        GaveTheDayBefore x = of("p0090,0;");
        x.set(0, law);
        x.set(1, span);
        x.set(3, 0);
        for (int n : given) {
            x.put(0, 0, 9999);
            if (n > 0) x.give(0, 9, n);
            x.evening();
        }
        return x.person(0, 6);
    }

    /** LEAVE of the second of two who gave 50 and 5, 40 and 7. */
    private static int secondsLeave(int law) {
        GaveTheDayBefore x = of("p00999,0;p00999,0;l030;");
        x.set(0, law);
        x.give(0, 9, 50);
        x.give(1, 9, 5);
        x.evening();
        x.give(0, 9, 40);
        x.give(1, 9, 7);
        x.evening();
        return x.person(1, 6);
    }

    private static void leave() {
        terms(4, "LEAVE of one: what it may carry home today:", () -> {
            GaveTheDayBefore x = of("p00999,50;");
            x.give(0, 9, 30);
            due("today's gifts are for tomorrow", x.person(0, 6), 1);
            x.evening();
            due("carried home on that evening", x.person(0, 3), 70);
            due("LEAVE tomorrow", x.person(0, 6), 30);
            x.evening();
            due("carried home then", x.person(0, 3), 100);
        });
        terms(4, "ONCE what COUNTED yesterday", () -> {
            due("yesterday", leaveOf(0, 5, 9, 7), 7);
            due("the day before yesterday", leaveOf(0, 5, 7, 0), 0);
            due("all that one can give at once", leaveOf(0, 5, 9999), 9999);
        });
        terms(4, "(day 0: 0);", () -> {
            for (int law = 0; law <= 5; law++) due("LAW " + law + " on day 0", leaveOf(law, 5), 0);
            GaveTheDayBefore x = of("p0090,5;");
            x.set(3, 0);
            x.evening();
            due("nothing is carried home", x.person(0, 3), 0);
            due("COUNTED yesterday", of("p0099,0;").person(0, 8), 0);
        });
        terms(4, "HALVED half of that, up;", () -> {
            due("of 0", leaveOf(1, 3, 0), 0);
            due("of 1", leaveOf(1, 3, 1), 1);
            due("of 2", leaveOf(1, 3, 2), 1);
            due("of 3", leaveOf(1, 3, 3), 2);
            due("of 9999", leaveOf(1, 3, 9999), 5000);
        });
        terms(4, "TWICE twice that;", () -> {
            due("of 0", leaveOf(2, 3, 0), 0);
            due("of 1", leaveOf(2, 3, 1), 2);
            due("of 4999", leaveOf(2, 3, 4999), 9998);
        });
        terms(4, "DAYS what COUNTED in the SPAN days before today together;", () -> {
            int[] sums = {32, 48, 56, 60, 62};
            for (int span = 1; span <= 5; span++) due("SPAN " + span, leaveOf(3, span, 1, 2, 4, 8, 16, 32), sums[span - 1]);
            due("less days than SPAN", leaveOf(3, 5, 3, 4), 7);
            due("of the second of two", secondsLeave(3), 12);
            due("days without gifts", leaveOf(3, 3, 9, 5, 0, 0), 5);
        });
        terms(4, "BEST the most that COUNTED in one of these;", () -> {
            int[] best = {1, 2, 4, 8, 16};
            for (int span = 1; span <= 5; span++) due("SPAN " + span, leaveOf(4, span, 32, 16, 8, 4, 2, 1), best[span - 1]);
            due("the last of them", leaveOf(4, 5, 1, 2, 3), 3);
            due("less days than SPAN", leaveOf(4, 5, 3), 3);
            due("of the second of two", secondsLeave(4), 7);
        });
        terms(4, "DEAR a HALVED's and the FIGURE of it.", () -> {
            for (int figure = 0; figure <= 9; figure += 9) {
                GaveTheDayBefore x = of("p0" + figure + "9999,0;l530;");
                x.set(3, 0);
                due("day 0, FIGURE " + figure, x.person(0, 6), figure);
                x.give(0, 9, 7);
                x.evening();
                due("of 7, FIGURE " + figure, x.person(0, 6), 4 + figure);
            }
        });
    }

    private static void leaveBounds() {
        terms(4, "All of them: no less than FREE,", () -> {
            for (int law = 0; law <= 5; law++) {
                GaveTheDayBefore x = of("p01999,0;");
                x.set(0, law);
                x.give(0, 9, 10);
                x.evening();
                x.set(3, 99);
                due("FREE 99, LAW " + law, x.person(0, 6), 99);
                evenings(x, 5);
                x.set(3, 0);
                due("FREE 0, LAW " + law, x.person(0, 6), law == 5 ? 1 : 0);
                x.set(3, 1);
                due("FREE 1, LAW " + law, x.person(0, 6), 1);
            }
            GaveTheDayBefore y = of("p0999,0;l530;");
            y.set(3, 9);
            due("DEAR by as much as FREE", y.person(0, 6), 9);
            y.set(3, 10);
            due("FREE is no part of the sum", y.person(0, 6), 10);
        });
        terms(4, "no more than 9999.", () -> {
            due("TWICE of 5000", leaveOf(2, 3, 5000), 9999);
            due("TWICE of 9999", leaveOf(2, 3, 9999), 9999);
            due("DAYS, 9999 together", leaveOf(3, 2, 4999, 5000), 9999);
            due("DAYS, 10000 together", leaveOf(3, 2, 5000, 5000), 9999);
            GaveTheDayBefore x = of("p0999999,0;");
            x.give(0, 9, 9999);
            x.put(0, 0, 9999);
            x.give(0, 9, 9999);
            x.evening();
            due("COUNTED itself has no such bound", x.person(0, 8), 19998);
            for (int law : new int[] {0, 2, 3, 4, 5}) {
                x.set(0, law);
                due("of 19998 by LAW " + law, x.person(0, 6), 9999);
            }
            x.set(0, 1);
            due("HALVED of 19998", x.person(0, 6), 9999);
        });
        terms(4, "A THIEF has 9999.", () -> {
            for (int law = 0; law <= 5; law++) {
                GaveTheDayBefore x = of("p7990,99;");
                x.set(0, law);
                x.set(3, 0);
                due("day 0, LAW " + law, x.person(0, 6), 9999);
                x.evening();
                due("carried home", x.person(0, 3), 99);
                due("day 1, LAW " + law, x.person(0, 6), 9999);
            }
        });
    }

    private static void gifts() {
        terms(9, "A DAY has a morning and an evening.", () -> {
            GaveTheDayBefore x = of("p1095,0;p0098,0;");
            x.give(1, 0, 2);
            due("what was given in the morning", x.person(0, 5), 2);
            due("the DAY by KINDS is the same DAY", x.day(), 1);
            due("both were one DAY's gifts", x.person(0, 8) + x.person(1, 8), 7);
        });
        terms(7, "GIVE by hand (in the morning): one gives n (1 .. what it HAS)", () -> {
            GaveTheDayBefore x = of("p0095,0;p0090,0;");
            due("0", x.give(0, 1, 0), -4);
            due("1", x.give(0, 1, 1), 4);
            due("more than it HAS", x.give(0, 1, 5), -6);
            due("what it HAS", x.give(0, 1, 4), 0);
            due("1 of nothing", x.give(0, 1, 1), -6);
        });
        terms(7, "to another one or to takers:", () -> {
            GaveTheDayBefore x = of("p0095,0;p0095,0;");
            due("to another one", x.give(0, 1, 1), 4);
            due("to takers", x.give(0, 9, 1), 3);
            due("to itself", x.give(0, 0, 1), -1);
            for (int to = 2; to <= 8; to++) due("to " + to, x.give(0, to, 1), -1);
            due("to 10", x.give(0, 10, 1), -1);
            due("takers give nothing", x.give(9, 0, 1), -1);
        });
        terms(7, "it HAS less;", () -> {
            GaveTheDayBefore x = of("p0099999,0;p0090,0;");
            x.give(0, 1, 9998);
            due("HAS", x.person(0, 3), 1);
            x.give(0, 9, 1);
            due("HAS", x.person(0, 3), 0);
        });
        terms(7, "the other one gets it, LYING till the evening.", () -> {
            GaveTheDayBefore x = of("p0099,0;p0090,0;");
            x.give(0, 1, 2);
            x.give(0, 1, 3);
            due("LYING", x.person(1, 5), 5);
            due("it HAS no more of it", x.person(1, 3), 0);
            due("it can't give it", x.give(1, 0, 1), -6);
            x.evening();
            due("LYING no more", x.person(1, 5), 0);
            due("carried home", x.person(1, 3), 1);
        });
    }

    /** 0 has so much LEAVE today and HAS so much; so much is LYING for it. */
    private static GaveTheDayBefore facing(int leave, int has, int got, int finds) {
        GaveTheDayBefore x = of("p0090,0;p0099999,0;");
        x.set(3, 0);
        x.put(0, 0, 9999);
        if (leave > 0) x.give(0, 9, leave);
        x.evening();
        x.put(0, 0, has);
        x.put(0, 1, finds);
        if (got > 0) x.give(1, 0, got);
        return x;
    }

    private static void home(int leave, int has, int got, int finds, int then) {
        String what = "LEAVE " + leave + ", HAS " + has + ", got " + got + ", FINDS " + finds;
        GaveTheDayBefore x = facing(leave, has, got, finds);
        due("LOST of " + what, x.lost(1), has + got + finds - then);
        x.evening();
        due("HAS of " + what, x.person(0, 3), then);
    }

    private static void evening() {
        terms(8, "EVENING: of what is LYING for one (got, and FINDS) it carries home as much as LEAVE;", () -> {
            home(7, 10, 3, 4, 17);
            home(7, 10, 3, 3, 16);
            home(7, 10, 4, 4, 17);
            home(7, 10, 20, 0, 17);
            home(7, 10, 0, 20, 17);
            home(0, 10, 20, 20, 10);
            home(7, 10, 0, 0, 10);
        });
        terms(8, "what is above 9999 then, or above LEAVE, is lost;", () -> {
            home(100, 9990, 9, 0, 9999);
            home(100, 9990, 10, 0, 9999);
            home(100, 9990, 5, 6, 9999);
            home(100, 9999, 0, 1, 9999);
            home(5, 9997, 10, 0, 9999);
            home(5, 9993, 10, 0, 9998);
            home(9999, 0, 9999, 0, 9999);
            home(9999, 0, 9999, 99, 9999);
        });
        terms(8, "then it is the next DAY, nothing is LYING.", () -> {
            GaveTheDayBefore x = of("p0090,0;p0099,0;");
            x.give(1, 0, 9);
            due("evening()", x.evening(), 1);
            due("LYING for it", x.person(0, 5), 0);
            due("LYING for all", x.count(3), 0);
            x.put(0, 0, 0);
            x.evening();
            due("what was lost does not come on the next DAY", x.person(0, 3), 0);
        });
    }

    private static void dayByKinds() {
        terms(9, "A DAY by KINDS: one behind the other, by numbers, all give TO as their KINDS do,", () -> {
            GaveTheDayBefore x = of("p10995,0;p70080,0;p10140,0;");
            x.put(0, 2, 1);
            x.day();
            due("the first gave what it HAD", x.person(0, 8), 95);
            due("the next gave of what it HAD, not of what it got", x.person(1, 8), 40);
            due("the last", x.person(2, 8), 40);
            due("what it HAD left and got", x.person(1, 3), 40 + 95 + 40);
        });
        terms(9, "if that is not themselves and not nothing,", () -> {
            for (int kind = 0; kind <= 7; kind++) {
                if (kind == 4) continue;
                GaveTheDayBefore x = days(of("p" + kind + "9099,0;"), 1);
                due("KIND " + kind + " to itself HAS", x.person(0, 3), 99);
                due("KIND " + kind + " to itself gave", x.person(0, 8), 0);
            }
            GaveTheDayBefore y = of("p10920,0;p1000,0;l031;");
            y.put(0, 2, 1);
            y.day();
            due("who gives nothing has not given back", y.person(0, 8), 20);
        });
        terms(9, "then EVENING.", () -> {
            GaveTheDayBefore x = of("p00910,5;p10020,0;");
            due("day()", x.day(), 1);
            due("carried home", x.person(0, 3), 11);
            due("nothing is LYING", x.count(3), 0);
            due("nothing is GIVEN today", x.count(4), 0);
        });
    }

    /** What one of a KIND, with TO 9, gives on DAY 0 by gives() and by day(). */
    private static void givesOnce(String what, String letters, int want) {
        GaveTheDayBefore x = of(letters);
        due(what + ", gives(0)", x.gives(0), want);
        x.day();
        due(what + ", given by day()", x.person(0, 8), want);
    }

    private static void kinds() {
        terms(10, "KEEPER gives 0.", () -> {
            givesOnce("of 0", "p0990,9;", 0);
            givesOnce("of 9999", "p0999999,99;", 0);
        });
        terms(10, "GIVER all that it HAS.", () -> {
            givesOnce("of 0", "p1990,9;", 0);
            givesOnce("of 1", "p1991,0;", 1);
            givesOnce("of 9999", "p1999999,0;", 9999);
        });
        terms(10, "HALF half of a GIVER's, cut.", () -> {
            givesOnce("of 0", "p2990,9;", 0);
            givesOnce("of 1", "p2991,9;", 0);
            givesOnce("of 2", "p2992,0;", 1);
            givesOnce("of 3", "p2993,0;", 1);
            givesOnce("of 9999", "p2999999,0;", 4999);
        });
        terms(10, "GROW as much as its FINDS and what it got on the day before, together,", () -> {
            givesOnce("of FINDS alone", "p309999,7;", 7);
            givesOnce("of nothing found or got", "p309999,0;", 0);
            GaveTheDayBefore x = of("p309999,7;p00099,0;");
            x.give(1, 0, 5);
            x.give(1, 0, 6);
            due("what it got today is for tomorrow", x.gives(0), 7);
            x.evening();
            due("got 11 (1 of them carried home)", x.gives(0), 18);
            x.put(0, 1, 0);
            due("by the FINDS of now", x.gives(0), 11);
            x.evening();
            due("got two days before", x.gives(0), 0);
        });
        terms(10, "but no more than it HAS.", () -> {
            givesOnce("FINDS 8 of 7", "p3097,8;", 7);
            givesOnce("FINDS 8 of 8", "p3098,8;", 8);
            givesOnce("FINDS 8 of 9", "p3099,8;", 8);
            givesOnce("FINDS 8 of 0", "p3090,8;", 0);
        });
        terms(9, "ROUND as a GIVER, but to the next one by numbers (gone round; TO does not matter).", () -> {
            GaveTheDayBefore x = of("p40911,0;p4013,0;p7095,0;");
            x.day();
            due("the first gave to 1, got nothing", x.person(0, 3), 0);
            due("the second got of 0", x.person(1, 3), 1);
            due("the THIEF got of 1, gave 2 away", x.person(2, 3), 6);
            GaveTheDayBefore last = days(of("p70920,0;p4095,0;"), 1);
            due("the last gives to 0", last.person(0, 3), 15);
            due("and gave all", last.person(1, 8), 5);
            GaveTheDayBefore alone = of("p4095,0;");
            due("alone, gives(0)", alone.gives(0), 0);
            alone.day();
            due("alone the next is itself", alone.person(0, 3), 5);
            GaveTheDayBefore self = of("p4005,0;p0090,0;");
            due("TO itself", self.gives(0), 5);
        });
    }

    private static void kindsByDay() {
        terms(10, "SAVE as a GROW on DAYS below 10 times FIGURE, then 0.", () -> {
            givesOnce("FIGURE 0", "p50999,7;", 0);
            givesOnce("FIGURE 1", "p51999,7;", 7);
            givesOnce("no more than it HAS", "p5193,7;", 3);
            for (int figure = 1; figure <= 9; figure++) {
                GaveTheDayBefore x = evenings(of("p5" + figure + "999,7;"), 10 * figure - 1);
                due("FIGURE " + figure + ", the last DAY", x.gives(0), 7);
                x.evening();
                due("FIGURE " + figure + ", the DAY then", x.gives(0), 0);
            }
            GaveTheDayBefore y = of("p51999,7;p00099,0;");
            y.give(1, 0, 5);
            y.evening();
            due("and what it got", y.gives(0), 12);
        });
        terms(9, "SAINT as a GIVER, and to takers on odd DAYS (by DAY's number).", () -> {
            GaveTheDayBefore x = of("p00950,0;p60010,0;");
            x.set(3, 99);
            x.day();
            due("DAY 0, to its TO", x.person(0, 3), 60);
            x.put(1, 0, 20);
            x.day();
            due("DAY 1, to takers", x.person(0, 3), 60);
            due("DAY 1, all", x.person(1, 8), 20);
            x.put(1, 0, 30);
            x.day();
            due("DAY 2, to its TO", x.person(0, 3), 90);
            x.put(1, 0, 40);
            x.day();
            due("DAY 3, to takers", x.person(0, 3), 90);
            GaveTheDayBefore self = of("p6009,0;");
            due("to itself on DAY 0", self.gives(0), 0);
            self.evening();
            due("to itself on DAY 1: to takers", self.gives(0), 9);
        });
        terms(10, "THIEF as a HALF on DAYS whose number FIGURE and 1 divides, else 0.", () -> {
            givesOnce("of 1", "p7091,0;", 0);
            givesOnce("of 3", "p7093,0;", 1);
            for (int figure = 0; figure <= 9; figure++) {
                GaveTheDayBefore x = of("p7" + figure + "99,0;");
                for (int day = 0; day <= 21; day++) {
                    due("FIGURE " + figure + " on DAY " + day, x.gives(0), day % (figure + 1) == 0 ? 4 : 0);
                    x.evening();
                }
            }
        });
    }

    private static void landLetters() {
        terms(2, "A LAND is told in letters, one by one (64 at most):", () -> {
            GaveTheDayBefore x = new GaveTheDayBefore();
            String full = "p0099999,99;p0099999,99;p0099999,99;p0099999,99;p0090,0;p0090,0;";
            for (int i = 0; i < full.length(); i++) due("letter " + i, x.feed(full.charAt(i)), i + 1);
            due("the 65th", x.feed(';'), -6);
            due("land() of 64", x.land(), 6);
            due("count(0)", x.count(0), 6);
        });
        terms(3, "STATEMENTS, each with \";\" behind:", () -> {
            due("one", tell(new GaveTheDayBefore(), "l030;"), 1);
            due("two", tell(new GaveTheDayBefore(), "l030;l030;"), 2);
            due("none behind the first", tell(new GaveTheDayBefore(), "l030l030;"), -1004);
            due("none behind the last", tell(new GaveTheDayBefore(), "l030;l030"), -1009);
            due("one too many", tell(new GaveTheDayBefore(), "l030;;"), -1005);
            due("one alone", tell(new GaveTheDayBefore(), ";"), -1000);
        });
        terms(3, "\"p\" KIND, FIGURE, TO (a digit each),", () -> {
            GaveTheDayBefore x = of("p1204,0;");
            due("KIND", x.person(0, 0), 1);
            due("FIGURE", x.person(0, 1), 2);
            due("TO", x.person(0, 2), 0);
            due("no KIND", tell(new GaveTheDayBefore(), "p,0;"), -1001);
            due("no FIGURE", tell(new GaveTheDayBefore(), "p0,0;"), -1002);
            due("no TO", tell(new GaveTheDayBefore(), "p00,0;"), -1003);
            due("a capital letter", tell(new GaveTheDayBefore(), "P0090,0;"), -1000);
            due("the sign below 0", tell(new GaveTheDayBefore(), "p/090,0;"), -1001);
            due("the sign above 9", tell(new GaveTheDayBefore(), "p0:90,0;"), -1002);
        });
        terms(3, "HAS (1 to 4 digits) \",\"", () -> {
            due("no digit", tell(new GaveTheDayBefore(), "p009,0;"), -1004);
            due("1", of("p0097,0;").person(0, 3), 7);
            due("4", of("p0091234,0;").person(0, 3), 1234);
            due("4 with 0 ahead", of("p0090012,0;").person(0, 3), 12);
            due("5", tell(new GaveTheDayBefore(), "p00912345,0;"), -1008);
            due("no \",\" behind 1", tell(new GaveTheDayBefore(), "p0091;"), -1005);
        });
        terms(3, "FINDS (1 or 2 digits): one of PEOPLE more;", () -> {
            due("no digit", tell(new GaveTheDayBefore(), "p0091,;"), -1006);
            GaveTheDayBefore x = of("p0091,7;");
            due("1", x.person(0, 4), 7);
            tell(x, "p0091,78;");
            due("2", x.person(1, 4), 78);
            due("one of PEOPLE more", x.count(0), 2);
            due("2 with 0 ahead", of("p0091,07;").person(0, 4), 7);
            due("3", tell(new GaveTheDayBefore(), "p0091,123;"), -1008);
        });
        terms(3, "\"l\" LAW, SPAN, BACK (a digit each).", () -> {
            GaveTheDayBefore x = of("l412;");
            due("LAW", x.set(0, 0), 4);
            due("SPAN", x.set(1, 3), 1);
            due("BACK", x.set(2, 0), 2);
            due("FREE stays", x.set(3, 1), 1);
            due("no digit", tell(x, "l;"), -1001);
            due("2 digits", tell(x, "l03;"), -1003);
            due("4 digits", tell(x, "l0300;"), -1004);
        });
        terms(3, "At least one STATEMENT.", () -> {
            due("none", new GaveTheDayBefore().land(), -1000);
            GaveTheDayBefore x = of("l030;");
            due("none behind a LAND", x.land(), -1000);
        });
    }

    private static void faultsOfLetters() {
        terms(3, "FAULT: kind 1 the place of the first letter with which no LAND can go on", () -> {
            String good = "p1294,5;l123;";
            for (int i = 0; i < good.length(); i++) {
                due("x at place " + i, tell(new GaveTheDayBefore(), good.substring(0, i) + "x" + good.substring(i + 1)), -1000 - i);
            }
            due("of two the first", tell(new GaveTheDayBefore(), "p12x4,5;x"), -1003);
            due("letter 0", tell(new GaveTheDayBefore(), "l030;" + (char) 0), -1005);
            due("letter 255", tell(new GaveTheDayBefore(), "l030;" + (char) 255), -1005);
            String full = "p0099999,99;p0099999,99;p0099999,99;p0099999,99;p0090,0;p0090,0";
            due("at the last place", tell(new GaveTheDayBefore(), full + "x"), -1063);
        });
        terms(3, "(the end, if something lacks): -1000 less the place;", () -> {
            String good = "p1294,5;l123;";
            for (int i = 0; i <= good.length(); i++) {
                if (i == 8 || i == good.length()) continue;
                due("the first " + i, tell(new GaveTheDayBefore(), good.substring(0, i)), -1000 - i);
            }
            String full = "p0099999,99;p0099999,99;p0099999,99;p0099999,99;p0090,0;p0090,00";
            due("64 letters, a \";\" lacks", tell(new GaveTheDayBefore(), full), -1064);
        });
        terms(3, "else kind 2 the place of the first letter of the first STATEMENT that is not as it must be", () -> {
            due("the first", tell(new GaveTheDayBefore(), "l630;l730;"), -2000);
            due("the second", tell(new GaveTheDayBefore(), "l030;l630;l730;"), -2005);
            due("the third", tell(new GaveTheDayBefore(), "l030;p0090,0;l730;"), -2013);
            due("kind 1 behind it is told", tell(new GaveTheDayBefore(), "l630;l"), -1006);
        });
    }

    private static void faultsOfStatements() {
        terms(3, "(a number out of range;", () -> {
            due("KIND 7", tell(new GaveTheDayBefore(), "p7090,0;"), 1);
            due("KIND 8", tell(new GaveTheDayBefore(), "l030;p8090,0;"), -2005);
            due("LAW 5", tell(new GaveTheDayBefore(), "l530;"), 1);
            due("LAW 6", tell(new GaveTheDayBefore(), "l630;"), -2000);
            due("SPAN 0", tell(new GaveTheDayBefore(), "l000;"), -2000);
            due("SPAN 1", tell(new GaveTheDayBefore(), "l010;"), 1);
            due("SPAN 5", tell(new GaveTheDayBefore(), "l050;"), 1);
            due("SPAN 6", tell(new GaveTheDayBefore(), "l060;"), -2000);
            due("BACK 5", tell(new GaveTheDayBefore(), "l035;"), 1);
            due("BACK 6", tell(new GaveTheDayBefore(), "l036;"), -2000);
        });
        terms(3, "TO: 9 or one of those who came before or itself;", () -> {
            GaveTheDayBefore x = new GaveTheDayBefore();
            for (int came = 0; came < 6; came++) {
                for (int to = came + 1; to <= 8; to++) due(came + " came, TO " + to, tell(x, "p00" + to + "0,0;"), -2000);
                due(came + " came, TO itself", tell(x, "p00" + came + "0,0;"), 1);
            }
            due("TO 9", of("p0090,0;").person(0, 2), 9);
            due("the one before, of the same LAND", tell(new GaveTheDayBefore(), "p0090,0;p0000,0;"), 2);
            due("the one behind, of the same LAND", tell(new GaveTheDayBefore(), "p0010,0;p0000,0;"), -2000);
        });
        terms(3, "no room;", () -> {
            GaveTheDayBefore x = of("p0090,0;p0090,0;p0090,0;p0090,0;p0090,0;");
            due("a sixth and a seventh", tell(x, "p0090,0;p0090,0;"), -2008);
            due("a sixth", tell(x, "p0090,0;"), 1);
            due("a seventh", tell(x, "p0090,0;"), -2000);
            due("a LAW has room", tell(x, "l030;"), 1);
        });
        terms(3, "one more on a DAY above 0): -2000 less the place.", () -> {
            GaveTheDayBefore x = of("p0090,0;");
            due("on DAY 0", tell(x, "p0090,0;"), 1);
            x.evening();
            due("on DAY 1", tell(x, "p0090,0;"), -2000);
            due("on DAY 1, behind a LAW", tell(x, "l030;p0090,0;"), -2005);
            due("a LAW on DAY 1", tell(x, "l030;"), 1);
            GaveTheDayBefore y = new GaveTheDayBefore();
            y.image();
            y.day();
            due("nobody on DAY 1", tell(y, "p0090,0;"), -2000);
            y.restore();
            due("on DAY 0 again", tell(y, "p0090,0;"), 1);
        });
        terms(3, "Without FAULT all of it comes, with one nothing.", () -> {
            nothingComes("l555;p8090,0;", -2005);
            nothingComes("l555;p0095,5;", -2005);
            nothingComes("l555;l551;l600;", -2010);
            nothingComes("l555;x", -1005);
            nothingComes("l555;l", -1006);
            GaveTheDayBefore early = of("p0097,0;");
            due("one and a FAULT", tell(early, "p0098,0;l600;"), -2008);
            due("the one has not come", early.count(0), 1);
            GaveTheDayBefore x = of("p0097,0;l111;p0008,0;l222;");
            due("count(0)", x.count(0), 2);
            due("the first one", x.person(0, 3), 7);
            due("the second one", x.person(1, 3), 8);
            due("the last LAW", x.set(0, 0), 2);
        });
    }

    private static void nothingComes(String letters, int fault) {
        unchanged(Sentences::lively, "land() of " + letters, x -> tell(x, letters), fault);
    }
}
