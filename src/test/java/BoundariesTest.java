import java.util.function.ToIntFunction;

/** Each sentence of the promises 1 to 34, at its boundaries: what a call answers, and each of its refusals. */
public final class BoundariesTest extends Sentences {
    private static final int LEAST = Integer.MIN_VALUE;
    private static final int GREATEST = Integer.MAX_VALUE;
    private static final int[] NOBODY = {3, 5, 6, 9, -1, LEAST, GREATEST};
    private static final int[] BELOW_ZERO = {-1, -2, LEAST};
    private static final int[] BELOW_ONE = {0, -1, LEAST};
    private static final int[] ABOVE_60 = {61, 62, GREATEST};
    private static final int[] ABOVE_6 = {7, 60, GREATEST};
    private static final int[] ABOVE_9999 = {10000, GREATEST};

    public static void main(String[] args) {
        newObject();
        feed();
        land();
        person();
        put();
        set();
        give();
        evening();
        day();
        gives();
        after();
        all();
        enough();
        richest();
        lost();
        grows();
        rest();
        most();
        choice();
        gap();
        feast();
        begins();
        helps();
        byLaw();
        byBack();
        leastLaw();
        rowOfNumbers();
        found();
        judge();
        told();
        seeds();
        image();
        restore();
        count();
        calls();
        for (int promise = 1; promise <= 34; promise++) allHeldOf(promise);
        finish();
    }

    /** A call with a number in one of its places. */
    private interface Call {
        int of(GaveTheDayBefore x, int number);
    }

    /** Refused for each of the numbers, in a village in which all there is can be seen to stay. */
    private static void refusedFor(String call, int[] numbers, int refusal, Call it) {
        for (int v : numbers) refused(Sentences::busy, call + " with " + v, x -> it.of(x, v), refusal);
    }

    private static void newObject() {
        promise(1, "Nobody.", () -> {
            GaveTheDayBefore x = new GaveTheDayBefore();
            for (int what = 0; what <= 6; what++) due("count(" + what + ")", x.count(what), 0);
            for (int what = 11; what <= 16; what++) due("count(" + what + ")", x.count(what), 0);
            for (int p = 0; p <= 5; p++) due("person(" + p + ", 0)", x.person(p, 0), -1);
            due("day()", x.day(), 1);
            GaveTheDayBefore first = of("p0095,0;");
            due("another object has its own", new GaveTheDayBefore().count(0), 0);
            due("and this one its own", first.count(0), 1);
        });
    }

    private static void feed() {
        promise(2, "A letter comes: how many there are.", () -> {
            GaveTheDayBefore x = new GaveTheDayBefore();
            due("the least", x.feed(0), 1);
            due("the greatest", x.feed(255), 2);
            for (int i = 3; i <= 64; i++) due("one more", x.feed('p'), i);
            due("count(5)", x.count(5), 64);
            x.land();
            due("the first of the next LAND", x.feed('p'), 1);
        });
        promise(2, "-4;", () -> {
            refusedFor("feed()", BELOW_ZERO, -4, (x, v) -> x.feed(v));
            refused(Sentences::fullOfLetters, "feed(-1), the 65th", x -> x.feed(-1), -4);
        });
        promise(2, "-6 (255; 64, too).", () -> {
            refusedFor("feed()", new int[] {256, 257, GREATEST}, -6, (x, v) -> x.feed(v));
            refused(Sentences::fullOfLetters, "feed(0), the 65th", x -> x.feed(0), -6);
            refused(Sentences::fullOfLetters, "feed(256), the 65th", x -> x.feed(256), -6);
        });
    }

    private static void land() {
        promise(3, "The letters, which are no more then, are a LAND:", () -> {
            GaveTheDayBefore x = of("p0095,0;");
            due("without FAULT", x.count(5), 0);
            tell(x, "p8090,0;");
            due("with FAULT 2", x.count(5), 0);
            tell(x, "l03");
            due("with FAULT 1", x.count(5), 0);
            due("the rest of it is no LAND", tell(x, "0;"), -1000);
            due("full, land()", fullOfLetters().land(), -1064);
        });
        promise(3, "how many STATEMENTS;", () -> {
            GaveTheDayBefore x = new GaveTheDayBefore();
            due("1", tell(x, "l030;"), 1);
            due("12, as many as have room", tell(x, "l030;".repeat(12)), 12);
            due("PEOPLE and LAWS", tell(x, "p0090,0;l030;p0090,0;"), 3);
        });
        promise(3, "the FAULT (nothing is counted).", () -> {
            for (String fault : new String[] {"", "x", "l", "l630;", "p0080,0;"}) {
                GaveTheDayBefore x = new GaveTheDayBefore();
                due("land() of " + fault, Math.max(tell(x, fault), -1000), -1000);
                for (int what = 11; what <= 16; what++) due("count(" + what + ")", x.count(what), 0);
            }
        });
    }

    private static void person() {
        GaveTheDayBefore x = of("p2395,7;p1004,0;");
        x.put(0, 0, 50);
        x.give(0, 1, 9);
        x.give(1, 9, 1);
        x.evening();
        x.give(0, 1, 2);
        x.give(0, 9, 3);
        x.give(1, 0, 1);
        x.give(1, 0, 1);
        promise(4, "Of one: KIND (what 0),", () -> due("KIND", x.person(0, 0) * 10 + x.person(1, 0), 21));
        promise(4, "FIGURE (1),", () -> due("FIGURE", x.person(0, 1) * 10 + x.person(1, 1), 30));
        promise(4, "TO (2),", () -> due("TO", x.person(0, 2) * 10 + x.person(1, 2), 90));
        promise(4, "HAS (3),", () -> {
            due("50, 9 given, 1 carried home, 5 given", x.person(0, 3), 37);
            due("4, 1 given, 1 carried home, 2 given", x.person(1, 3), 2);
        });
        promise(4, "FINDS (4),", () -> due("FINDS", x.person(0, 4) * 10 + x.person(1, 4), 70));
        promise(4, "what is LYING for it without FINDS (5),", () -> {
            due("with FINDS 7", x.person(0, 5), 2);
            due("with FINDS 0", x.person(1, 5), 2);
            due("FINDS alone", of("p0090,99;").person(0, 5), 0);
        });
        promise(4, "LEAVE (6),", () -> {
            due("by what was given yesterday", x.person(0, 6), 9);
            due("no less than FREE", x.person(1, 6), 1);
            due("a THIEF", of("p7090,0;").person(0, 6), 9999);
        });
        promise(4, "GIVEN today (7),", () -> {
            due("to both", x.person(0, 7), 5);
            due("twice to one", x.person(1, 7), 2);
        });
        promise(4, "COUNTED yesterday (8).", () -> {
            due("to another one", x.person(0, 8), 9);
            due("to takers", x.person(1, 8), 1);
            due("on DAY 0", of("p1099,0;").person(0, 8), 0);
        });
        promise(4, "-1;", () -> {
            refusedFor("person(.., 0)", NOBODY, -1, (y, v) -> y.person(v, 0));
            refusedFor("person(.., 9)", NOBODY, -1, (y, v) -> y.person(v, 9));
        });
        promise(4, "-2.", () -> refusedFor("person(0, ..)", new int[] {-1, 9, 10, LEAST, GREATEST}, -2, (y, v) -> y.person(0, v)));
    }

    private static void put() {
        promise(5, "HAS (what 0), FINDS (1), TO (2) becomes v: what it was.", () -> {
            GaveTheDayBefore x = of("p0095,7;p0004,1;");
            due("HAS, the greatest", x.put(0, 0, 9999), 5);
            due("HAS, the least", x.put(0, 0, 0), 9999);
            due("HAS as it is", x.put(0, 0, 0), 0);
            due("FINDS, the greatest", x.put(0, 1, 99), 7);
            due("FINDS, the least", x.put(0, 1, 0), 99);
            due("TO another one", x.put(0, 2, 1), 9);
            due("TO itself", x.put(0, 2, 0), 1);
            due("TO takers", x.put(0, 2, 9), 0);
            due("TO is takers", x.person(0, 2), 9);
            due("the other one", x.person(1, 3) + x.person(1, 4) + x.person(1, 2), 5);
        });
        promise(5, "-1;", () -> {
            refusedFor("put(.., 0, 0)", NOBODY, -1, (x, v) -> x.put(v, 0, 0));
            refusedFor("put(.., 3, -1)", NOBODY, -1, (x, v) -> x.put(v, 3, -1));
        });
        promise(5, "-2;", () -> {
            refusedFor("put(0, .., 0)", new int[] {-1, 3, LEAST, GREATEST}, -2, (x, v) -> x.put(0, v, 0));
            refusedFor("put(0, .., -1)", new int[] {-1, 3, LEAST, GREATEST}, -2, (x, v) -> x.put(0, v, -1));
        });
        promise(5, "-4;", () -> {
            refusedFor("put(0, 0, ..)", BELOW_ZERO, -4, (x, v) -> x.put(0, 0, v));
            refusedFor("put(0, 1, ..)", BELOW_ZERO, -4, (x, v) -> x.put(0, 1, v));
        });
        promise(5, "-6 (9999; 99;", () -> {
            refusedFor("put(0, 0, ..)", ABOVE_9999, -6, (x, v) -> x.put(0, 0, v));
            refusedFor("put(0, 1, ..)", new int[] {100, 9999, GREATEST}, -6, (x, v) -> x.put(0, 1, v));
        });
        promise(5, "TO that is neither 9 nor one of PEOPLE: -1).", () ->
            refusedFor("put(0, 2, ..)", new int[] {3, 4, 8, 10, -1, LEAST, GREATEST}, -1, (x, v) -> x.put(0, 2, v)));
    }

    private static void set() {
        int[] least = {0, 1, 0, 0};
        int[] most = {5, 5, 5, 99};
        promise(6, "A SETTING: what it was.", () -> {
            GaveTheDayBefore x = of("p04999,0;l111;");
            for (int what = 0; what <= 3; what++) {
                due("set(" + what + ", least)", x.set(what, least[what]), 1);
                due("set(" + what + ", greatest)", x.set(what, most[what]), least[what]);
                due("as it is", x.set(what, most[what]), most[what]);
            }
            due("LEAVE by DEAR and FREE 99", x.person(0, 6), 99);
            GaveTheDayBefore y = of("p00999,0;p00999,0;");
            y.give(0, 1, 7);
            y.give(1, 0, 5);
            y.evening();
            for (int what : new int[] {0, 1, 3}) {
                y.set(what, 5);
                due("what COUNTED stays behind set(" + what + ", 5)", y.person(0, 8), 7);
            }
            y.set(2, 5);
            due("but by another BACK", y.person(0, 8), 0);
        });
        promise(6, "-2;", () -> {
            refusedFor("set(.., 0)", new int[] {-1, 4, LEAST, GREATEST}, -2, (x, v) -> x.set(v, 0));
            refusedFor("set(.., -1)", new int[] {-1, 4, LEAST, GREATEST}, -2, (x, v) -> x.set(v, -1));
        });
        promise(6, "-4;", () -> {
            for (int what = 0; what <= 3; what++) {
                int setting = what;
                refusedFor("set(" + what + ", ..)", new int[] {least[what] - 1, LEAST}, -4, (x, v) -> x.set(setting, v));
            }
        });
        promise(6, "-6.", () -> {
            for (int what = 0; what <= 3; what++) {
                int setting = what;
                refusedFor("set(" + what + ", ..)", new int[] {most[what] + 1, GREATEST}, -6, (x, v) -> x.set(setting, v));
            }
        });
    }

    private static void give() {
        promise(7, "GIVE by hand (to 9: takers): what it HAS left.", () -> {
            GaveTheDayBefore x = of("p0095,0;p0004,0;");
            due("the least", x.give(0, 1, 1), 4);
            due("to takers", x.give(0, 9, 1), 3);
            due("all that it HAS", x.give(0, 1, 3), 0);
            due("LYING for the other one", x.person(1, 5), 4);
            due("GIVEN", x.person(0, 7), 5);
        });
        promise(7, "-1 either (one twice, too);", () -> {
            refusedFor("give(.., 0, 1)", NOBODY, -1, (x, v) -> x.give(v, 0, 1));
            refusedFor("give(0, .., 1)", new int[] {3, 8, 10, -1, LEAST, GREATEST}, -1, (x, v) -> x.give(0, v, 1));
            refusedFor("give(one, the same, 1)", new int[] {0, 1, 2, 9}, -1, (x, v) -> x.give(v, v, 1));
            refusedFor("give(3, .., 0)", new int[] {0, 3, 9}, -1, (x, v) -> x.give(3, v, 0));
        });
        promise(7, "-4 n below 1;", () -> {
            refusedFor("give(0, 1, ..)", BELOW_ONE, -4, (x, v) -> x.give(0, 1, v));
            refusedFor("give(0, 9, ..)", BELOW_ONE, -4, (x, v) -> x.give(0, 9, v));
            refusedFor("of one who HAS 0", BELOW_ONE, -4, (x, v) -> x.give(2, 0, v));
        });
        promise(7, "-6 more than it HAS.", () -> {
            int has = busy().person(0, 3);
            refusedFor("give(0, 1, ..)", new int[] {has + 1, 9999, 10000, GREATEST}, -6, (x, v) -> x.give(0, 1, v));
            due("of one who HAS 0", busy().person(2, 3), 0);
            refusedFor("give(2, 9, ..)", new int[] {1, GREATEST}, -6, (x, v) -> x.give(2, 9, v));
        });
    }

    private static void evening() {
        promise(8, "EVENING: the DAY then.", () -> {
            GaveTheDayBefore x = of("p1095,3;");
            due("on DAY 0", x.evening(), 1);
            due("nothing is given by KINDS", x.person(0, 3), 6);
            for (int day = 2; day <= 500; day++) due("the DAY then", x.evening(), day);
            due("nobody", new GaveTheDayBefore().evening(), 1);
        });
        promise(8, "-6 it is 999.", () -> lastDay("evening()", GaveTheDayBefore::evening));
    }

    /** No run of 512 calls comes to DAY 999, so this goes on for longer than the document promises anything. */
    private static void lastDay(String call, ToIntFunction<GaveTheDayBefore> it) {
        GaveTheDayBefore x = of("p1090,1;");
        evenings(x, 998);
        due(call + " on DAY 998", it.applyAsInt(x), 999);
        int has = x.person(0, 3);
        due(call + " on DAY 999", it.applyAsInt(x), -6);
        due("once more", it.applyAsInt(x), -6);
        due("the DAY", x.count(1), 999);
        due("HAS", x.person(0, 3), has);
        due("REFUSALS -6", x.count(16), 2);
    }

    private static void day() {
        promise(9, "A DAY by KINDS: the DAY then.", () -> {
            GaveTheDayBefore x = of("p1095,3;");
            due("on DAY 0", x.day(), 1);
            due("all is given by its KIND, 1 is carried home", x.person(0, 3), 1);
            due("evening()", x.evening(), 2);
            for (int day = 3; day <= 500; day++) due("the DAY then", x.day(), day);
            due("nobody", new GaveTheDayBefore().day(), 1);
        });
        promise(9, "-6 it is 999.", () -> lastDay("day()", GaveTheDayBefore::day));
    }

    private static void gives() {
        promise(10, "What one would give by its KIND now.", () -> {
            GaveTheDayBefore x = of("p0099,4;p1099,4;p2099,4;p3099,4;p4099,4;p5199,4;");
            int[] want = {0, 9, 4, 4, 9, 4};
            for (int p = 0; p <= 5; p++) due("gives(" + p + ")", x.gives(p), want[p]);
            for (int p = 0; p <= 5; p++) due("it HAS it still", x.person(p, 3), 9);
            x.give(1, 9, 3);
            due("now", x.gives(1), 6);
            x.put(1, 2, 1);
            due("to itself nothing", x.gives(1), 0);
            x.put(4, 2, 4);
            due("a ROUND's TO does not matter", x.gives(4), 9);
            due("a SAINT", of("p6099,0;").gives(0), 9);
            due("a THIEF", of("p7999,0;").gives(0), 4);
        });
        promise(10, "-1.", () -> refusedFor("gives(..)", NOBODY, -1, (x, v) -> x.gives(v)));
    }

    private static void after() {
        promise(11, "AFTER.", () -> {
            due("n 0", pair().after(0, 0), 4);
            due("n 60", pair().after(0, 60), 64);
        });
        promise(11, "-1;", () -> {
            refusedFor("after(.., 0)", NOBODY, -1, (x, v) -> x.after(v, 0));
            refusedFor("after(.., -1)", NOBODY, -1, (x, v) -> x.after(v, -1));
            refusedFor("after(.., 61)", NOBODY, -1, (x, v) -> x.after(v, 61));
        });
        promise(11, "-4;", () -> refusedFor("after(0, ..)", BELOW_ZERO, -4, (x, v) -> x.after(0, v)));
        promise(11, "-6 60.", () -> refusedFor("after(0, ..)", ABOVE_60, -6, (x, v) -> x.after(0, v)));
    }

    private static void all() {
        promise(12, "ALL.", () -> {
            due("n 0", pair().all(0), 14);
            due("n 60", pair().all(60), 67);
            due("nobody", new GaveTheDayBefore().all(0), 0);
        });
        promise(12, "-4;", () -> refusedFor("all(..)", BELOW_ZERO, -4, (x, v) -> x.all(v)));
        promise(12, "-6 60.", () -> refusedFor("all(..)", ABOVE_60, -6, (x, v) -> x.all(v)));
    }

    private static void enough() {
        promise(13, "ENOUGH; -9.", () -> {
            due("0", pair().enough(0, 0), 0);
            due("behind 60", pair().enough(0, 64), 60);
            due("behind 61", pair().enough(0, 65), -9);
            due("9999", pair().enough(0, 9999), -9);
            due("9999 now", of("p0099999,0;").enough(0, 9999), 0);
            unchanged(Sentences::busy, "-9 is no refusal: enough(0, 9999)", x -> x.enough(0, 9999), -9);
        });
        promise(13, "-1;", () -> {
            refusedFor("enough(.., 0)", NOBODY, -1, (x, v) -> x.enough(v, 0));
            refusedFor("enough(.., -1)", NOBODY, -1, (x, v) -> x.enough(v, -1));
            refusedFor("enough(.., 10000)", NOBODY, -1, (x, v) -> x.enough(v, 10000));
        });
        promise(13, "-4;", () -> refusedFor("enough(0, ..)", BELOW_ZERO, -4, (x, v) -> x.enough(0, v)));
        promise(13, "-6 9999.", () -> refusedFor("enough(0, ..)", ABOVE_9999, -6, (x, v) -> x.enough(0, v)));
    }

    private static void richest() {
        promise(14, "RICHEST; -9 nobody.", () -> {
            due("n 0", pair().richest(0), 1);
            due("n 60", pair().richest(60), 0);
            due("nobody, n 60", new GaveTheDayBefore().richest(60), -9);
            unchanged(GaveTheDayBefore::new, "nobody, n 0", x -> x.richest(0), -9);
        });
        promise(14, "-4;", () -> {
            refusedFor("richest(..)", BELOW_ZERO, -4, (x, v) -> x.richest(v));
            refused(GaveTheDayBefore::new, "richest(-1) of nobody", x -> x.richest(-1), -4);
        });
        promise(14, "-6 60.", () -> {
            refusedFor("richest(..)", ABOVE_60, -6, (x, v) -> x.richest(v));
            refused(GaveTheDayBefore::new, "richest(61) of nobody", x -> x.richest(61), -6);
        });
    }

    private static void lost() {
        promise(15, "LOST.", () -> {
            due("n 0", pair().lost(0), 0);
            due("n 1", pair().lost(1), 11);
            due("n 60", pair().lost(60), 127);
            due("nobody", new GaveTheDayBefore().lost(60), 0);
        });
        promise(15, "-4;", () -> refusedFor("lost(..)", BELOW_ZERO, -4, (x, v) -> x.lost(v)));
        promise(15, "-6 60.", () -> refusedFor("lost(..)", ABOVE_60, -6, (x, v) -> x.lost(v)));
    }

    private static void grows() {
        promise(16, "GROWS: 1, 0, 2.", () -> {
            due("1", of("p0090,1;").grows(1), 1);
            due("0", of("p0099,0;").grows(60), 0);
            due("2", of("p1099,0;").grows(60), 2);
            unchanged(Sentences::busy, "2 is no refusal: grows(1)", x -> x.grows(1), 2);
        });
        promise(16, "-4 below 1;", () -> refusedFor("grows(..)", BELOW_ONE, -4, (x, v) -> x.grows(v)));
        promise(16, "-6 60.", () -> refusedFor("grows(..)", ABOVE_60, -6, (x, v) -> x.grows(v)));
    }

    private static void rest() {
        promise(17, "REST; -9.", () -> {
            due("0", of("p0099,0;").rest(), 0);
            due("58", of("p0099941,1;").rest(), 58);
            unchanged(() -> of("p0099940,1;"), "59 is too far, and no refusal", x -> x.rest(), -9);
        });
    }

    private static void most() {
        promise(18, "MOST.", () -> {
            due("n 1", finder().most(0, 1), 11);
            due("n 6", finder().most(0, 6), 50);
        });
        promise(18, "-1;", () -> {
            refusedFor("most(.., 1)", NOBODY, -1, (x, v) -> x.most(v, 1));
            refusedFor("most(.., 0)", NOBODY, -1, (x, v) -> x.most(v, 0));
            refusedFor("most(.., 7)", NOBODY, -1, (x, v) -> x.most(v, 7));
        });
        promise(18, "-4;", () -> refusedFor("most(0, ..)", BELOW_ONE, -4, (x, v) -> x.most(0, v)));
        promise(18, "-6 6.", () -> refusedFor("most(0, ..)", ABOVE_6, -6, (x, v) -> x.most(0, v)));
    }

    private static void choice() {
        promise(19, "The i-th choice; -9 none such.", () -> {
            GaveTheDayBefore x = finder();
            due("the first of 1", x.choice(0, 1, 0), 0);
            due("the second of 1", x.choice(0, 1, 1), -9);
            due("the last of 2", x.choice(0, 2, 1), 0);
            due("the third of 2", x.choice(0, 2, 2), -9);
            due("the first of 6", x.choice(0, 6, 0), 1);
            due("the last but one of 6", x.choice(0, 6, 4), 1);
            due("the last of 6", x.choice(0, 6, 5), 0);
            due("the seventh of 6", x.choice(0, 6, 6), -9);
            due("the greatest", x.choice(0, 6, GREATEST), -9);
            unchanged(Sentences::busy, "-9 is no refusal: choice(0, 1, 1)", y -> y.choice(0, 1, 1), -9);
        });
        promise(19, "-1;", () -> {
            refusedFor("choice(.., 1, 0)", NOBODY, -1, (x, v) -> x.choice(v, 1, 0));
            refusedFor("choice(.., 0, -1)", NOBODY, -1, (x, v) -> x.choice(v, 0, -1));
            refusedFor("choice(.., 7, 9)", NOBODY, -1, (x, v) -> x.choice(v, 7, 9));
        });
        promise(19, "-4 (i, too);", () -> {
            refusedFor("choice(0, .., 0)", BELOW_ONE, -4, (x, v) -> x.choice(0, v, 0));
            refusedFor("choice(0, 1, ..)", BELOW_ZERO, -4, (x, v) -> x.choice(0, 1, v));
            refusedFor("choice(0, 7, ..)", BELOW_ZERO, -4, (x, v) -> x.choice(0, 7, v));
            refusedFor("choice(0, .., 9)", BELOW_ONE, -4, (x, v) -> x.choice(0, v, 9));
        });
        promise(19, "-6 6.", () -> {
            refusedFor("choice(0, .., 0)", ABOVE_6, -6, (x, v) -> x.choice(0, v, 0));
            refusedFor("choice(0, .., greatest)", ABOVE_6, -6, (x, v) -> x.choice(0, v, GREATEST));
        });
    }

    private static void gapRefusedFor(String call, int[] numbers, int refusal, Call it) {
        for (int v : numbers) refusedAs(Sentences::busy, call + " with " + v, x -> it.of(x, v), refusal, 1000000000 - refusal);
    }

    private static void gap() {
        promise(20, "GAP.", () -> {
            due("n 1", finder().gap(0, 1), 0);
            due("n 6", finder().gap(0, 6), 34);
        });
        promise(20, "Refused as told: -1;", () -> {
            gapRefusedFor("gap(.., 1)", NOBODY, -1, (x, v) -> x.gap(v, 1));
            gapRefusedFor("gap(.., 0)", NOBODY, -1, (x, v) -> x.gap(v, 0));
            gapRefusedFor("gap(.., 7)", NOBODY, -1, (x, v) -> x.gap(v, 7));
        });
        promise(20, "-4;", () -> gapRefusedFor("gap(0, ..)", BELOW_ONE, -4, (x, v) -> x.gap(0, v)));
        promise(20, "-6 6.", () -> gapRefusedFor("gap(0, ..)", ABOVE_6, -6, (x, v) -> x.gap(0, v)));
    }

    private static void feast() {
        promise(21, "FEAST; -9.", () -> {
            due("n 1, 0", finder().feast(0, 1, 0), 0);
            due("n 2, as much as MOST", finder().feast(0, 2, 21), 10);
            due("n 2, more than MOST", finder().feast(0, 2, 22), -9);
            unchanged(Sentences::busy, "-9 is no refusal: feast(0, 6, 9999)", x -> x.feast(0, 6, 9999), -9);
        });
        promise(21, "-1;", () -> {
            refusedFor("feast(.., 1, 0)", NOBODY, -1, (x, v) -> x.feast(v, 1, 0));
            refusedFor("feast(.., 0, 10000)", NOBODY, -1, (x, v) -> x.feast(v, 0, 10000));
        });
        promise(21, "-4;", () -> {
            refusedFor("feast(0, .., 0)", BELOW_ONE, -4, (x, v) -> x.feast(0, v, 0));
            refusedFor("feast(0, .., 10000)", BELOW_ONE, -4, (x, v) -> x.feast(0, v, 10000));
            refusedFor("feast(0, 1, ..)", BELOW_ZERO, -4, (x, v) -> x.feast(0, 1, v));
            refusedFor("feast(0, 7, ..)", BELOW_ZERO, -4, (x, v) -> x.feast(0, 7, v));
        });
        promise(21, "-6 (6; 9999).", () -> {
            refusedFor("feast(0, .., 0)", ABOVE_6, -6, (x, v) -> x.feast(0, v, 0));
            refusedFor("feast(0, 1, ..)", ABOVE_9999, -6, (x, v) -> x.feast(0, 1, v));
            refusedFor("feast(0, 7, ..)", ABOVE_9999, -6, (x, v) -> x.feast(0, 7, v));
        });
    }

    private static void begins() {
        promise(22, "BEGINS (bits).", () -> {
            due("nobody", new GaveTheDayBefore().begins(), 0);
            for (int who = 0; who <= 5; who++) {
                GaveTheDayBefore x = of("p0091,0;p0091,0;p0091,0;p0091,0;p0091,0;p0091,0;");
                due("all begin", x.begins(), 0);
                x.put(who, 0, 0);
                due("the bit of " + who, x.begins(), 1 << who);
            }
        });
    }

    private static void helps() {
        promise(23, "HELPS; -9.", () -> {
            due("the last", of("p0090,0;p0090,0;p0093,0;").helps(), 2);
            unchanged(() -> of("p0090,0;p0090,0;p0092,0;"), "none, and no refusal", x -> x.helps(), -9);
            unchanged(GaveTheDayBefore::new, "nobody", x -> x.helps(), -9);
        });
    }

    private static void byLaw() {
        promise(24, "BY LAW.", () -> {
            GaveTheDayBefore x = of("p10910,99;");
            int[] want = {10, 5, 20, 10, 10, 5};
            for (int law = 0; law <= 5; law++) due("byLaw(" + law + ", 0, 2)", x.byLaw(law, 0, 2), want[law]);
            due("n 0", x.byLaw(5, 0, 0), 10);
            due("n 60 by ONCE: 1 and 10 in turns", x.byLaw(0, 0, 60), 10);
        });
        promise(24, "-2;", () -> {
            int[] other = {-1, 6, LEAST, GREATEST};
            refusedFor("byLaw(.., 0, 0)", other, -2, (x, v) -> x.byLaw(v, 0, 0));
            refusedFor("byLaw(.., 3, -1)", other, -2, (x, v) -> x.byLaw(v, 3, -1));
        });
        promise(24, "-1;", () -> {
            refusedFor("byLaw(5, .., 0)", NOBODY, -1, (x, v) -> x.byLaw(5, v, 0));
            refusedFor("byLaw(0, .., -1)", NOBODY, -1, (x, v) -> x.byLaw(0, v, -1));
            refusedFor("byLaw(0, .., 61)", NOBODY, -1, (x, v) -> x.byLaw(0, v, 61));
        });
        promise(24, "-4;", () -> refusedFor("byLaw(0, 0, ..)", BELOW_ZERO, -4, (x, v) -> x.byLaw(0, 0, v)));
        promise(24, "-6 60.", () -> refusedFor("byLaw(5, 0, ..)", ABOVE_60, -6, (x, v) -> x.byLaw(5, 0, v)));
    }

    private static void byBack() {
        promise(25, "BY BACK.", () -> {
            GaveTheDayBefore x = of("p10910,50;p1008,50;");
            x.put(0, 2, 1);
            due("BACK 0: all counts", x.byBack(0, 0, 2), 10);
            for (int back = 1; back <= 5; back++) due("BACK " + back + ": nothing does", x.byBack(back, 0, 2), 1);
            due("n 0", x.byBack(5, 0, 0), 10);
            due("n 60", x.byBack(5, 0, 60), 1);
        });
        promise(25, "-1;", () -> {
            refusedFor("byBack(0, .., 0)", NOBODY, -1, (x, v) -> x.byBack(0, v, 0));
            refusedFor("byBack(-1, .., -1)", NOBODY, -1, (x, v) -> x.byBack(-1, v, -1));
            refusedFor("byBack(6, .., 61)", NOBODY, -1, (x, v) -> x.byBack(6, v, 61));
        });
        promise(25, "-4 either;", () -> {
            refusedFor("byBack(.., 0, 0)", BELOW_ZERO, -4, (x, v) -> x.byBack(v, 0, 0));
            refusedFor("byBack(.., 0, 61)", BELOW_ZERO, -4, (x, v) -> x.byBack(v, 0, 61));
            refusedFor("byBack(0, 0, ..)", BELOW_ZERO, -4, (x, v) -> x.byBack(0, 0, v));
            refusedFor("byBack(6, 0, ..)", BELOW_ZERO, -4, (x, v) -> x.byBack(6, 0, v));
        });
        promise(25, "-6 (5; 60).", () -> {
            refusedFor("byBack(.., 0, 0)", new int[] {6, GREATEST}, -6, (x, v) -> x.byBack(v, 0, 0));
            refusedFor("byBack(5, 0, ..)", ABOVE_60, -6, (x, v) -> x.byBack(5, 0, v));
            refusedFor("byBack(6, 0, ..)", ABOVE_60, -6, (x, v) -> x.byBack(6, 0, v));
        });
    }

    private static void leastLaw() {
        promise(26, "LEAST LAW.", () -> {
            due("n 0", of("p10910,99;").leastLaw(0, 0), 0);
            due("HALVED", of("p10910,99;").leastLaw(0, 2), 1);
            due("n 60", of("p0099,0;").leastLaw(0, 60), 0);
        });
        promise(26, "-1;", () -> {
            refusedFor("leastLaw(.., 0)", NOBODY, -1, (x, v) -> x.leastLaw(v, 0));
            refusedFor("leastLaw(.., -1)", NOBODY, -1, (x, v) -> x.leastLaw(v, -1));
            refusedFor("leastLaw(.., 61)", NOBODY, -1, (x, v) -> x.leastLaw(v, 61));
        });
        promise(26, "-4;", () -> refusedFor("leastLaw(0, ..)", BELOW_ZERO, -4, (x, v) -> x.leastLaw(0, v)));
        promise(26, "-6 60.", () -> refusedFor("leastLaw(0, ..)", ABOVE_60, -6, (x, v) -> x.leastLaw(0, v)));
    }

    private static GaveTheDayBefore fullOfNumbers() {
        GaveTheDayBefore x = pair();
        row(x, 5, 6, 7, 8, 9, 10, 11, 12, 13, 14, 15, 16);
        return x;
    }

    private static void rowOfNumbers() {
        promise(27, "A number more of the ROW: how many.", () -> {
            GaveTheDayBefore x = new GaveTheDayBefore();
            due("the least", x.row(0), 1);
            due("the greatest", x.row(9999), 2);
            for (int i = 3; i <= 12; i++) due("one more", x.row(7), i);
            due("count(6)", x.count(6), 12);
            x.told();
            due("the first of the next", x.row(7), 1);
        });
        promise(27, "-4;", () -> {
            refusedFor("row(..)", BELOW_ZERO, -4, (x, v) -> x.row(v));
            refused(BoundariesTest::fullOfNumbers, "row(-1), the 13th", x -> x.row(-1), -4);
        });
        promise(27, "-6 (9999; 12, too).", () -> {
            refusedFor("row(..)", ABOVE_9999, -6, (x, v) -> x.row(v));
            refused(BoundariesTest::fullOfNumbers, "row(0), the 13th", x -> x.row(0), -6);
            refused(BoundariesTest::fullOfNumbers, "row(10000), the 13th", x -> x.row(10000), -6);
        });
    }

    private static void found() {
        promise(28, "FOUND; -9 (the ROW has none then).", () -> {
            GaveTheDayBefore x = fullOfNumbers();
            due("none of 12", x.found(0), -9);
            due("none then", x.count(6), 0);
            row(x, 5, 7);
            due("the second", x.found(0), 1);
            due("none then, either", x.count(6), 0);
            due("of none", x.found(0), -9);
            for (int what = 11; what <= 16; what++) due("-9 is no refusal", x.count(what), 0);
            row(x, 6, 0);
            due("the ROW begins anew", x.found(0), 0);
        });
        promise(28, "-1 (it stays).", () -> {
            refusedFor("found(..)", NOBODY, -1, (x, v) -> x.found(v));
            refused(BoundariesTest::fullOfNumbers, "found(2) of 12", x -> x.found(2), -1);
            GaveTheDayBefore x = fullOfNumbers();
            x.found(2);
            due("it stays", x.judge(0), -9);
        });
    }

    private static void judge() {
        promise(29, "JUDGED; -9 (the ROW has none then).", () -> {
            GaveTheDayBefore x = fullOfNumbers();
            due("none of 12", x.judge(0), -9);
            due("none then", x.count(6), 0);
            row(x, 5, 5);
            due("the second", x.judge(0), 1);
            due("none then, either", x.count(6), 0);
            due("of none", x.judge(0), -9);
            for (int what = 11; what <= 16; what++) due("-9 is no refusal", x.count(what), 0);
        });
        promise(29, "-1 (it stays).", () -> {
            refusedFor("judge(..)", NOBODY, -1, (x, v) -> x.judge(v));
            refused(BoundariesTest::fullOfNumbers, "judge(2) of 12", x -> x.judge(2), -1);
            GaveTheDayBefore x = fullOfNumbers();
            x.judge(2);
            due("it stays", x.judge(0), -9);
        });
    }

    private static void told() {
        promise(30, "TOLD; -9 (the ROW has none then).", () -> {
            GaveTheDayBefore x = pair();
            row(x, 0, 1, 4, 1, 0, 10);
            due("all can be given", x.told(), -9);
            due("none then", x.count(6), 0);
            row(x, 0, 1, 5);
            due("it can't be given", x.told(), 0);
            due("none then, either", x.count(6), 0);
            row(x, 0, 1);
            due("the size", x.told(), 2);
            due("none then, either", x.count(6), 0);
            for (int what = 11; what <= 16; what++) due("nothing is refused", x.count(what), 0);
            due("nothing was given", x.count(4), 0);
        });
    }

    private static void seeds() {
        promise(31, "SEEDS.", () -> {
            due("n 1", of("p0090,0;").seeds(1, 1), 8);
            due("n 20, the greatest seed", of("p0099999,0;").seeds(20, GREATEST), 9999);
            due("n 20, the least seed", of("p1090,0;").seeds(20, LEAST), 0);
        });
        promise(31, "-4;", () -> {
            refusedFor("seeds(.., 1)", BELOW_ONE, -4, (x, v) -> x.seeds(v, 1));
            refused(GaveTheDayBefore::new, "seeds(0, 1) of nobody", x -> x.seeds(0, 1), -4);
        });
        promise(31, "-6 20;", () -> {
            refusedFor("seeds(.., 1)", new int[] {21, GREATEST}, -6, (x, v) -> x.seeds(v, 1));
            refused(GaveTheDayBefore::new, "seeds(21, 1) of nobody", x -> x.seeds(21, 1), -6);
        });
        promise(31, "-3 nobody.", () -> {
            refused(GaveTheDayBefore::new, "seeds(1, 1)", x -> x.seeds(1, 1), -3);
            refused(GaveTheDayBefore::new, "seeds(20, -1)", x -> x.seeds(20, -1), -3);
        });
    }

    private static void image() {
        promise(32, "THE IMAGE is taken: the DAY.", () -> {
            GaveTheDayBefore x = new GaveTheDayBefore();
            due("of nobody", x.image(), 0);
            tell(x, "p0095,1;");
            due("on DAY 0", x.image(), 0);
            days(x, 3);
            due("on DAY 3, in place of the other", x.image(), 3);
            days(x, 2);
            due("restore()", x.restore(), 3);
            due("HAS", x.person(0, 3), 8);
        });
    }

    private static void restore() {
        promise(33, "It is RESTORED: the DAY.", () -> {
            GaveTheDayBefore x = new GaveTheDayBefore();
            x.image();
            tell(x, "p0095,1;");
            x.set(3, 50);
            days(x, 4);
            due("restore()", x.restore(), 0);
            due("nobody", x.count(0), 0);
            due("FREE", x.set(3, 7), 1);
            due("again", x.restore(), 0);
            due("FREE again", x.set(3, 7), 1);
            due("at once", x.restore() + x.restore(), 0);
        });
        promise(33, "-3 there is none.", () -> {
            refused(GaveTheDayBefore::new, "restore() of a new object", x -> x.restore(), -3);
            refused(Sentences::pair, "restore() of a village", x -> x.restore(), -3);
        });
    }

    private static void count() {
        GaveTheDayBefore x = of("p0594,7;p1006,0;p00220,0;");
        days(x, 2);
        x.put(0, 0, 9);
        x.give(0, 1, 1);
        x.give(2, 0, 5);
        x.give(2, 9, 2);
        x.feed('l');
        row(x, 3, 4);
        promise(34, "0 PEOPLE,", () -> due("count(0)", x.count(0), 3));
        promise(34, "1 the DAY,", () -> due("count(1)", x.count(1), 2));
        promise(34, "2 what all HAVE,", () -> {
            due("count(2)", x.count(2), x.person(0, 3) + x.person(1, 3) + x.person(2, 3));
            due("of 8, 0 and 13", x.count(2), 8 + 0 + 13);
        });
        promise(34, "3 what is LYING for all,", () -> due("without FINDS, without what takers got", x.count(3), 1 + 5));
        promise(34, "4 all GIVEN today,", () -> {
            due("and what takers got", x.count(4), 1 + 5 + 2);
            GaveTheDayBefore six = of("p0099,0;p0099,0;p0099,0;p0099,0;p0099,0;p0099,0;");
            for (int p = 0; p <= 5; p++) six.give(p, (p + 1) % 6, 3);
            six.give(0, 9, 1);
            six.evening();
            due("yesterday's are not among them", six.count(4), 0);
            for (int p = 0; p <= 5; p++) six.give(p, (p + 1) % 6, 1);
            for (int p = 0; p <= 5; p++) six.give(p, 9, 2);
            due("of six, and to takers", six.count(4), 18);
            due("LYING for six, without takers", six.count(3), 6);
        });
        promise(34, "5 letters,", () -> due("count(5)", x.count(5), 1));
        promise(34, "6 in the ROW,", () -> due("count(6)", x.count(6), 2));
        promise(34, "11 .. 16 REFUSALS -1 .. -6.", () -> {
            GaveTheDayBefore y = new GaveTheDayBefore();
            y.gives(0);
            y.set(4, 0);
            y.set(4, 0);
            for (int i = 0; i < 3; i++) y.restore();
            for (int i = 0; i < 4; i++) y.row(-1);
            for (int i = 0; i < 6; i++) y.row(10000);
            int[] want = {1, 2, 3, 4, 0, 6};
            for (int i = 0; i < 6; i++) due("count(" + (11 + i) + ")", y.count(11 + i), want[i]);
        });
        promise(34, "-9 for another what.", () -> {
            for (int what : new int[] {-1, 7, 8, 9, 10, 17, LEAST, GREATEST}) {
                unchanged(Sentences::busy, "count(" + what + ")", y -> y.count(what), -9);
            }
        });
    }

    private static void calls() {
        sentence(34, "## What it is", "An object is used for at most 512 calls after it has been made;", () -> {
            GaveTheDayBefore x = new GaveTheDayBefore();
            for (int i = 1; i <= 511; i++) x.row(-1);
            due("the 512th", x.count(14), 511);
            GaveTheDayBefore y = new GaveTheDayBefore();
            days(y, 511);
            due("day(), the 512th", y.day(), 512);
        });
    }
}
