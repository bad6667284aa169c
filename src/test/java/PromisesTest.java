/** Each of the promises 1 to 34, by answers worked out by hand from the document. */
public final class PromisesTest extends Calls {
    private static int passed = 0;
    private static int failed = 0;
    private static int promise = 0;

    private static void due(String call, int got, int want) {
        if (got == want) {
            passed++;
        } else {
            failed++;
            System.out.println("promise " + promise + ": " + call + " answered " + got + ", due is " + want);
        }
    }

    public static void main(String[] args) {
        newObject();
        feed();
        landAnswers();
        landFaultsOfLetters();
        landFaultsOfStatements();
        person();
        leaveByLaws();
        leaveByBack();
        put();
        set();
        give();
        evening();
        day();
        gives();
        after();
        all();
        enough();
        richest();
        lost();
        grows();
        rest();
        most();
        choice();
        gap();
        feast();
        begins();
        helps();
        byLaw();
        byBack();
        leastLaw();
        rowOfNumbers();
        found();
        judge();
        told();
        seeds();
        image();
        restore();
        count();
        System.out.println(passed + " passed, " + failed + " failed");
        if (failed != 0) System.exit(1);
    }

    private static void newObject() {
        promise = 1;
        GaveTheDayBefore x = new GaveTheDayBefore();
        for (int what = 0; what <= 6; what++) due("count(" + what + ")", x.count(what), 0);
        for (int what = 11; what <= 16; what++) due("count(" + what + ")", x.count(what), 0);
        due("set(0, 0)", x.set(0, 0), 0);
        due("set(1, 3)", x.set(1, 3), 3);
        due("set(2, 0)", x.set(2, 0), 0);
        due("set(3, 1)", x.set(3, 1), 1);
        due("person(0, 0)", x.person(0, 0), -1);
    }

    private static void feed() {
        promise = 2;
        GaveTheDayBefore x = new GaveTheDayBefore();
        due("feed(-1)", x.feed(-1), -4);
        due("feed(256)", x.feed(256), -6);
        due("feed(0)", x.feed(0), 1);
        due("feed(255)", x.feed(255), 2);
        for (int i = 3; i <= 64; i++) due("feed(32)", x.feed(32), i);
        due("feed(32), the 65th", x.feed(32), -6);
        due("feed(-1), the 65th", x.feed(-1), -4);
        due("count(5)", x.count(5), 64);
        due("count(14)", x.count(14), 2);
        due("count(16)", x.count(16), 2);
    }

    private static void landAnswers() {
        promise = 3;
        GaveTheDayBefore x = new GaveTheDayBefore();
        due("land()", tell(x, "l452;p7390012,07;"), 2);
        due("count(5)", x.count(5), 0);
        due("person(0, 0)", x.person(0, 0), 7);
        due("person(0, 1)", x.person(0, 1), 3);
        due("person(0, 2)", x.person(0, 2), 9);
        due("person(0, 3)", x.person(0, 3), 12);
        due("person(0, 4)", x.person(0, 4), 7);
        due("set(0, 4)", x.set(0, 4), 4);
        due("set(1, 5)", x.set(1, 5), 5);
        due("set(2, 2)", x.set(2, 2), 2);
        due("land() once more", tell(x, "p0019999,99;"), 1);
        due("person(1, 2)", x.person(1, 2), 1);
        due("person(1, 3)", x.person(1, 3), 9999);
        due("person(1, 4)", x.person(1, 4), 99);
        due("land() of the last of two laws", tell(x, "l111;l222;"), 2);
        due("set(0, 2)", x.set(0, 2), 2);
    }

    private static void landFaultsOfLetters() {
        promise = 3;
        GaveTheDayBefore x = new GaveTheDayBefore();
        due("nothing", tell(x, ""), -1000);
        due("x", tell(x, "x"), -1000);
        due("p", tell(x, "p"), -1001);
        due("p000,", tell(x, "p000,"), -1004);
        due("p0000", tell(x, "p0000"), -1005);
        due("p0000;", tell(x, "p0000;"), -1005);
        due("p00000000", tell(x, "p00000000"), -1008);
        due("p0000,", tell(x, "p0000,"), -1006);
        due("p0000,;", tell(x, "p0000,;"), -1006);
        due("p0000,000;", tell(x, "p0000,000;"), -1008);
        due("p0000,0", tell(x, "p0000,0"), -1007);
        due("l03", tell(x, "l03"), -1003);
        due("l0300;", tell(x, "l0300;"), -1004);
        due("l030;;", tell(x, "l030;;"), -1005);
        due("l030;l", tell(x, "l030;l"), -1006);
        due("letters come ahead of statements", tell(x, "l900;p"), -1006);
        due("count(0)", x.count(0), 0);
        due("letters are no more", x.count(5), 0);
        for (int what = 11; what <= 16; what++) due("count(" + what + ")", x.count(what), 0);
    }

    private static void landFaultsOfStatements() {
        promise = 3;
        GaveTheDayBefore x = new GaveTheDayBefore();
        due("KIND 8", tell(x, "l111;p8090,0;"), -2005);
        due("with a fault nothing comes", x.set(0, 0), 0);
        due("TO 1 of the first", tell(x, "p0010,0;"), -2000);
        due("TO 2 of the second", tell(x, "p0000,0;p0020,0;"), -2008);
        due("TO 1 of the second", tell(x, "p0000,0;p0010,0;"), 2);
        due("TO 3 of the third", tell(x, "p0030,0;"), -2000);
        due("TO 8", tell(x, "p0080,0;"), -2000);
        due("LAW 6", tell(x, "l630;"), -2000);
        due("SPAN 0", tell(x, "l000;"), -2000);
        due("SPAN 6", tell(x, "l060;"), -2000);
        due("BACK 6", tell(x, "l036;"), -2000);
        due("four more and one too many", tell(x, "p0090,0;p0090,0;p0090,0;p0090,0;p0090,0;"), -2032);
        due("none of them came", x.count(0), 2);
        due("four more", tell(x, "p0090,0;p0090,0;p0090,0;p0090,0;"), 4);
        due("a seventh", tell(x, "l030;p0090,0;"), -2005);
        GaveTheDayBefore late = days(of("p0090,0;"), 1);
        due("one more on day 1", tell(late, "p0090,0;"), -2000);
        due("a law on day 1", tell(late, "l555;"), 1);
    }

    private static void person() {
        promise = 4;
        GaveTheDayBefore x = of("p0595,7;p1004,0;");
        x.give(0, 1, 2);
        x.give(0, 9, 1);
        x.give(1, 0, 3);
        int[] want = {0, 5, 9, 2, 7, 3, 1, 3, 0};
        for (int what = 0; what <= 8; what++) due("person(0, " + what + ")", x.person(0, what), want[what]);
        x.evening();
        int[] then = {0, 5, 9, 3, 7, 0, 3, 0, 3};
        for (int what = 0; what <= 8; what++) due("person(0, " + what + ") then", x.person(0, what), then[what]);
        due("person(2, 0)", x.person(2, 0), -1);
        due("person(-1, 0)", x.person(-1, 0), -1);
        due("person(0, 9)", x.person(0, 9), -2);
        due("person(0, -1)", x.person(0, -1), -2);
        due("person(2, 9)", x.person(2, 9), -1);
        due("count(11)", x.count(11), 3);
        due("count(12)", x.count(12), 2);
    }

    private static void leaveByLaws() {
        promise = 4;
        GaveTheDayBefore x = of("p0490,0;p7490,0;");
        x.put(0, 0, 9999);
        int[] gifts = {20, 3, 8, 2, 5};
        for (int n : gifts) {
            x.give(0, 9, n);
            x.evening();
        }
        int[] leave = {5, 3, 10, 15, 8, 7};
        for (int law = 0; law <= 5; law++) {
            x.set(0, law);
            due("LEAVE by law " + law, x.person(0, 6), leave[law]);
            due("a THIEF's LEAVE by law " + law, x.person(1, 6), 9999);
        }
        x.set(1, 5);
        x.set(0, 3);
        due("DAYS of 5", x.person(0, 6), 38);
        x.set(0, 4);
        due("BEST of 5", x.person(0, 6), 20);
        x.set(1, 1);
        due("BEST of 1", x.person(0, 6), 5);
        x.set(3, 99);
        due("no less than FREE", x.person(0, 6), 99);
        x.set(3, 0);
        x.give(0, 9, 5001);
        x.evening();
        x.set(0, 2);
        due("no more than 9999", x.person(0, 6), 9999);
        x.evening();
        due("FREE 0", x.person(0, 6), 0);
    }

    private static void leaveByBack() {
        promise = 4;
        GaveTheDayBefore x = of("p00990,0;p00990,0;l035;");
        x.give(1, 0, 4);
        for (int i = 0; i < 5; i++) x.evening();
        x.give(0, 1, 7);
        x.give(0, 9, 2);
        x.evening();
        due("given back 5 days behind", x.person(0, 8), 2);
        x.set(2, 4);
        due("BACK 4 does not look so far", x.person(0, 8), 9);
        x.set(0, 3);
        x.set(1, 5);
        for (int i = 0; i < 4; i++) x.evening();
        due("DAYS up to 5 days behind, BACK 4", x.person(0, 6), 9);
        x.set(2, 5);
        due("and BACK 5 from there, 10 days behind", x.person(0, 6), 2);
        GaveTheDayBefore y = of("p00990,0;p00990,0;");
        y.give(0, 1, 3);
        y.give(1, 0, 5);
        y.evening();
        due("BACK 0: all count", y.person(0, 8), 3);
        y.set(2, 1);
        due("given back on that day", y.person(0, 8), 0);
        due("of the other, too", y.person(1, 8), 0);
        y.give(0, 1, 6);
        y.evening();
        due("given back a day behind", y.person(0, 8), 0);
        y.evening();
        y.give(0, 1, 6);
        y.evening();
        due("two days behind", y.person(0, 8), 6);
    }

    private static void put() {
        promise = 5;
        GaveTheDayBefore x = of("p0095,7;p0004,1;");
        due("put(0, 0, 9999)", x.put(0, 0, 9999), 5);
        due("put(0, 0, 0)", x.put(0, 0, 0), 9999);
        due("put(0, 1, 99)", x.put(0, 1, 99), 7);
        due("put(0, 2, 1)", x.put(0, 2, 1), 9);
        due("put(0, 2, 0)", x.put(0, 2, 0), 1);
        due("put(0, 2, 9)", x.put(0, 2, 9), 0);
        due("person(0, 4)", x.person(0, 4), 99);
        due("put(2, 0, 0)", x.put(2, 0, 0), -1);
        due("put(0, 3, 0)", x.put(0, 3, 0), -2);
        due("put(0, 0, -1)", x.put(0, 0, -1), -4);
        due("put(0, 0, 10000)", x.put(0, 0, 10000), -6);
        due("put(0, 1, 100)", x.put(0, 1, 100), -6);
        due("put(0, 2, 2)", x.put(0, 2, 2), -1);
        due("put(0, 2, 10)", x.put(0, 2, 10), -1);
        due("put(0, 2, -1)", x.put(0, 2, -1), -1);
        due("put(0, 2, the least int)", x.put(0, 2, Integer.MIN_VALUE), -1);
        due("put(0, 3, -1)", x.put(0, 3, -1), -2);
        due("put(0, 1, -1)", x.put(0, 1, -1), -4);
        due("person(0, 2)", x.person(0, 2), 9);
        due("count(11)", x.count(11), 5);
        due("count(12)", x.count(12), 2);
        due("count(14)", x.count(14), 2);
    }

    private static void set() {
        promise = 6;
        GaveTheDayBefore x = new GaveTheDayBefore();
        int[] least = {0, 1, 0, 0};
        int[] most = {5, 5, 5, 99};
        int[] first = {0, 3, 0, 1};
        for (int what = 0; what <= 3; what++) {
            due("set least of " + what, x.set(what, least[what]), first[what]);
            due("set most of " + what, x.set(what, most[what]), least[what]);
            due("set below least of " + what, x.set(what, least[what] - 1), -4);
            due("set above most of " + what, x.set(what, most[what] + 1), -6);
            due("set most again of " + what, x.set(what, most[what]), most[what]);
        }
        due("set(4, 0)", x.set(4, 0), -2);
        due("set(-1, 0)", x.set(-1, 0), -2);
    }

    private static void give() {
        promise = 7;
        GaveTheDayBefore x = of("p0095,0;p0004,0;");
        due("give(0, 1, 2)", x.give(0, 1, 2), 3);
        due("it is lying", x.person(1, 5), 2);
        due("it is not had", x.person(1, 3), 4);
        due("give(0, 9, 3)", x.give(0, 9, 3), 0);
        due("give(0, 9, 1)", x.give(0, 9, 1), -6);
        due("give(0, 0, 1)", x.give(0, 0, 1), -1);
        due("give(0, 2, 1)", x.give(0, 2, 1), -1);
        due("give(0, -1, 1)", x.give(0, -1, 1), -1);
        due("give(9, 0, 1)", x.give(9, 0, 1), -1);
        due("give(9, 9, 1)", x.give(9, 9, 1), -1);
        due("give(1, 0, 0)", x.give(1, 0, 0), -4);
        due("give(1, 0, 5)", x.give(1, 0, 5), -6);
        due("give(1, 0, 4)", x.give(1, 0, 4), 0);
        due("person(0, 7)", x.person(0, 7), 5);
    }

    private static void evening() {
        promise = 8;
        GaveTheDayBefore x = of("p009500,0;p0004,3;p70099,99;");
        x.give(0, 1, 10);
        due("evening()", x.evening(), 1);
        due("no more than FREE", x.person(1, 3), 5);
        due("nothing is lying", x.person(1, 5), 0);
        due("a THIEF carries all", x.person(2, 3), 198);
        x.give(0, 1, 5);
        x.give(1, 0, 4);
        x.evening();
        due("as much as counted yesterday", x.person(0, 3), 489);
        x.put(1, 0, 9998);
        x.give(0, 1, 100);
        x.evening();
        due("no more than 9999", x.person(1, 3), 9999);
        due("kinds give nothing in it", x.person(0, 7), 0);
        GaveTheDayBefore late = new GaveTheDayBefore();
        for (int d = 1; d <= 500; d++) late.evening();
        due("evening() to 501", late.evening(), 501);
    }

    private static void day() {
        promise = 9;
        GaveTheDayBefore x = of("p10910,0;p2009,0;p4008,0;p6026,0;");
        due("day()", x.day(), 1);
        due("GIVER gave all, carried FREE home", x.person(0, 3), 1);
        due("HALF keeps the larger half", x.person(1, 3), 5);
        due("ROUND gave to the next, got of the SAINT", x.person(2, 3), 1);
        due("SAINT gave on day 0, got of the ROUND", x.person(3, 3), 1);
        due("counted of the GIVER", x.person(0, 8), 10);
        due("day()", x.day(), 2);
        due("HALF gave 2 to the GIVER", x.person(0, 3), 2);
        due("SAINT gave to takers on day 1", x.person(2, 3), 0);
        GaveTheDayBefore self = days(of("p1005,0;"), 1);
        due("to itself nobody gives", self.person(0, 3), 5);
        GaveTheDayBefore alone = days(of("p4095,0;"), 1);
        due("ROUND alone", alone.person(0, 3), 5);
        GaveTheDayBefore hand = of("p1098,0;p0090,0;");
        hand.give(0, 1, 3);
        hand.day();
        due("by hand and by kind on one day", hand.person(0, 8), 8);
        lastDay();
    }

    private static void lastDay() {
        promise = 9;
        GaveTheDayBefore x = new GaveTheDayBefore();
        for (int d = 1; d <= 508; d++) x.day();
        due("image() on day 508", x.image(), 508);
        // No run of 512 calls comes to day 999: what stands behind is more than the document promises.
        for (int d = 509; d <= 999; d++) x.day();
        due("day() on day 999", x.day(), -6);
        due("evening() on day 999", x.evening(), -6);
        due("count(1)", x.count(1), 999);
        due("days in mind go on", x.all(60), 0);
    }

    private static void gives() {
        promise = 10;
        GaveTheDayBefore x = of("p0099,0;p1099,0;p2099,0;p3099,4;p4099,0;p5199,4;");
        int[] want = {0, 9, 4, 4, 9, 4};
        for (int p = 0; p < 6; p++) due("gives(" + p + ")", x.gives(p), want[p]);
        due("gives(6)", x.gives(6), -1);
        due("gives(-1)", x.gives(-1), -1);
        x.give(1, 3, 2);
        x.give(2, 3, 1);
        x.evening();
        due("GROW by what it got, not what it carried home", x.gives(3), 7);
        x.put(3, 0, 5);
        due("GROW no more than it has", x.gives(3), 5);
        for (int d = 1; d < 9; d++) x.evening();
        due("SAVE on day 9", x.gives(5), 4);
        x.evening();
        due("SAVE on day 10", x.gives(5), 0);
        GaveTheDayBefore y = of("p6099,0;p7099,0;p7299,0;p5099,4;");
        due("SAINT", y.gives(0), 9);
        int[] thief = {4, 0, 0, 5};
        int[] thief0 = {4, 4, 4, 4};
        for (int d = 0; d < 4; d++) {
            due("THIEF of 0 on day " + d, y.gives(1), thief0[d]);
            due("THIEF of 2 on day " + d, y.gives(2), thief[d]);
            y.evening();
            if (d == 2) y.put(2, 0, 10);
        }
        due("SAVE of 0", y.gives(3), 0);
        givesToItself();
    }

    private static void givesToItself() {
        promise = 10;
        GaveTheDayBefore x = of("p1009,0;p2019,0;p3029,4;p4039,0;p5949,4;p6059,0;");
        int[] even = {0, 0, 0, 9, 0, 0};
        for (int p = 0; p < 6; p++) due("to itself, gives(" + p + ")", x.gives(p), even[p]);
        x.evening();
        due("a SAINT to itself, on an odd day to takers", x.gives(5), 9);
        due("a GIVER to itself, on an odd day", x.gives(0), 0);
        x.put(0, 2, 9);
        due("to takers from then on", x.gives(0), 9);
        x.put(0, 2, 0);
        due("and to itself again", x.gives(0), 0);
        due("a THIEF to itself", of("p7009,0;").gives(0), 0);
        due("a ROUND alone", of("p4099,0;").gives(0), 0);
        GaveTheDayBefore ring = of("p4009,0;p4015,0;");
        due("a ROUND, TO does not matter", ring.gives(0), 9);
        due("gone round", ring.gives(1), 5);
        givesAsOnADay();
    }

    /** BACK is 0, so all that one gives on a day counts on the next. */
    private static void givesAsOnADay() {
        promise = 10;
        for (int kind = 0; kind <= 7; kind++) {
            for (int to : new int[] {0, 2, 9}) {
                GaveTheDayBefore x = of("p00960,5;p10030,7;p" + kind + "1940,9;");
                x.put(2, 2, to);
                for (int d = 0; d < 12; d++) {
                    int[] would = {x.gives(0), x.gives(1), x.gives(2)};
                    x.day();
                    for (int p = 0; p < 3; p++) due("KIND " + kind + " TO " + to + ", gives(" + p + ") on day " + d, would[p], x.person(p, 8));
                }
            }
        }
    }

    private static void after() {
        promise = 11;
        GaveTheDayBefore x = pair();
        due("after(0, 0)", x.after(0, 0), 4);
        due("after(0, 1)", x.after(0, 1), 5);
        due("after(1, 1)", x.after(1, 1), 1);
        due("after(1, 2)", x.after(1, 2), 3);
        due("after(1, 3)", x.after(1, 3), 1);
        due("after(1, 60)", x.after(1, 60), 3);
        due("after(2, 0)", x.after(2, 0), -1);
        due("after(0, -1)", x.after(0, -1), -4);
        due("after(0, 61)", x.after(0, 61), -6);
        x.give(1, 9, 8);
        due("given by hand stays given", x.after(1, 1), 1);
        due("and counts", x.after(1, 2), 3);
        due("in mind", x.count(1), 0);
        due("in mind", x.person(1, 3), 2);
    }

    private static void all() {
        promise = 12;
        GaveTheDayBefore x = pair();
        due("all(0)", x.all(0), 14);
        due("all(1)", x.all(1), 6);
        due("all(2)", x.all(2), 9);
        due("all(60)", x.all(60), x.after(0, 60) + 3);
        due("all(-1)", x.all(-1), -4);
        due("all(61)", x.all(61), -6);
    }

    private static void enough() {
        promise = 13;
        GaveTheDayBefore x = pair();
        due("enough(0, 4)", x.enough(0, 4), 0);
        due("enough(0, 5)", x.enough(0, 5), 1);
        due("enough(0, 6)", x.enough(0, 6), 2);
        due("enough(1, 11)", x.enough(1, 11), -9);
        due("enough(0, 0)", x.enough(0, 0), 0);
        due("enough(0, 9999)", x.enough(0, 9999), -9);
        due("enough(2, 0)", x.enough(2, 0), -1);
        due("enough(0, -1)", x.enough(0, -1), -4);
        due("enough(0, 10000)", x.enough(0, 10000), -6);
        GaveTheDayBefore y = of("p0090,1;");
        due("behind 60 days", y.enough(0, 60), 60);
        due("behind 61 days", y.enough(0, 61), -9);
    }

    private static void richest() {
        promise = 14;
        GaveTheDayBefore x = pair();
        due("richest(0)", x.richest(0), 1);
        due("richest(1)", x.richest(1), 0);
        due("richest(-1)", x.richest(-1), -4);
        due("richest(61)", x.richest(61), -6);
        due("nobody", new GaveTheDayBefore().richest(0), -9);
        due("of several the least", of("p0091,0;p0095,0;p0095,0;").richest(0), 1);
        due("nobody has anything", of("p0090,0;p0090,0;").richest(5), 0);
    }

    private static void lost() {
        promise = 15;
        GaveTheDayBefore x = pair();
        due("lost(0)", x.lost(0), 0);
        due("lost(1)", x.lost(1), 11);
        due("lost(2)", x.lost(2), 11);
        due("lost(3)", x.lost(3), 11 + 2 + 2);
        due("lost(-1)", x.lost(-1), -4);
        due("lost(61)", x.lost(61), -6);
        GaveTheDayBefore y = of("p7009990,20;");
        due("above 9999", y.lost(1), 11);
        due("to takers is not lost", of("p1095,0;").lost(3), 0);
    }

    private static void grows() {
        promise = 16;
        GaveTheDayBefore x = pair();
        due("grows(1)", x.grows(1), 2);
        due("grows(0)", x.grows(0), -4);
        due("grows(61)", x.grows(61), -6);
        due("more", of("p0091,1;").grows(1), 1);
        due("as much", of("p0091,0;").grows(60), 0);
        due("nobody", new GaveTheDayBefore().grows(1), 0);
    }

    private static void rest() {
        promise = 17;
        due("pair", pair().rest(), -9);
        due("nobody", new GaveTheDayBefore().rest(), 0);
        due("at once", of("p0095,0;").rest(), 0);
        due("behind a day", of("p1095,0;").rest(), 1);
        due("behind 58", of("p0099941,1;").rest(), 58);
        due("behind 59", of("p0099940,1;").rest(), -9);
        GaveTheDayBefore x = of("p0095,0;");
        x.give(0, 9, 1);
        due("given by hand stays given", x.rest(), 0);
    }

    private static void most() {
        promise = 18;
        GaveTheDayBefore x = finder();
        x.set(0, 0);
        due("most(0, 1)", x.most(0, 1), 11);
        due("most(0, 2)", x.most(0, 2), 12);
        x.set(0, 2);
        due("most(0, 2) by TWICE", x.most(0, 2), 21);
        due("most(0, 3) by TWICE", x.most(0, 3), 22);
        // 5 of 10, 6 of 6, 10 of 10, 12 of 12, 10 of 20, 0 of 30: behind these it has 6, 10, 12, 20, 30, 50.
        due("most(0, 6) by TWICE", x.most(0, 6), 50);
        due("most(2, 1)", x.most(2, 1), -1);
        due("most(0, 0)", x.most(0, 0), -4);
        due("most(0, 7)", x.most(0, 7), -6);
        due("in mind", x.person(0, 3), 10);
        GaveTheDayBefore y = of("p00012,99;p4008,0;");
        y.set(0, 2);
        due("to itself: to takers", y.most(0, 2), 25);
        due("others by kinds", y.most(1, 1), 8);
        due("ROUND gives TO, not to the next, and keeps what 0 can't give", y.most(1, 2), 8);
    }

    private static void choice() {
        promise = 19;
        GaveTheDayBefore x = finder();
        x.set(0, 2);
        due("choice(0, 2, 0)", x.choice(0, 2, 0), 2);
        due("choice(0, 2, 1)", x.choice(0, 2, 1), 0);
        due("choice(0, 2, 2)", x.choice(0, 2, 2), -9);
        due("choice(0, 1, 0)", x.choice(0, 1, 0), 0);
        int[] best = {1, 2, 2, 2, 1, 0};
        for (int i = 0; i < 6; i++) due("choice(0, 6, " + i + ")", x.choice(0, 6, i), best[i]);
        due("the first best row", x.choice(1, 3, 2), 0);
        due("choice(0, 2, -1)", x.choice(0, 2, -1), -4);
        due("choice(0, 0, 0)", x.choice(0, 0, 0), -4);
        due("choice(0, 7, 0)", x.choice(0, 7, 0), -6);
        due("choice(0, 7, -1)", x.choice(0, 7, -1), -4);
        due("choice(2, 7, -1)", x.choice(2, 7, -1), -1);
        x.put(0, 1, 9);
        due("half is enough", x.choice(0, 2, 0), 1);
    }

    private static void gap() {
        promise = 20;
        GaveTheDayBefore x = finder();
        due("a KEEPER who can't do better", x.gap(0, 1), 0);
        x.set(0, 2);
        due("gap(0, 2)", x.gap(0, 2), 21 - 12);
        due("gap(2, 1)", x.gap(2, 1), 1000000001);
        due("gap(0, 0)", x.gap(0, 0), 1000000004);
        due("gap(0, 7)", x.gap(0, 7), 1000000006);
        due("count(11)", x.count(11), 1);
        due("count(14)", x.count(14), 1);
        due("count(16)", x.count(16), 1);
        // A GROW that gives back the 3 it got may then carry home the THIEF's 6: 13; by choices it has 11 at most.
        GaveTheDayBefore grow = of("p3099,0;p71015,0;l230;");
        grow.give(1, 0, 3);
        grow.evening();
        due("below 0", grow.gap(0, 2), -2);
    }

    private static void feast() {
        promise = 21;
        GaveTheDayBefore x = finder();
        x.set(0, 2);
        due("feast(0, 2, 12)", x.feast(0, 2, 12), 0);
        due("feast(0, 2, 13)", x.feast(0, 2, 13), 5);
        due("feast(0, 2, 17)", x.feast(0, 2, 17), 10);
        due("feast(0, 2, 21)", x.feast(0, 2, 21), 10);
        due("feast(0, 2, 22)", x.feast(0, 2, 22), -9);
        due("feast(2, 7, -1)", x.feast(2, 7, -1), -1);
        due("feast(0, 7, -1)", x.feast(0, 7, -1), -4);
        due("feast(0, 0, 10000)", x.feast(0, 0, 10000), -4);
        due("feast(0, 7, 0)", x.feast(0, 7, 0), -6);
        due("feast(0, 1, 10000)", x.feast(0, 1, 10000), -6);
        due("feast(0, 1, 0)", x.feast(0, 1, 0), 0);
    }

    private static void begins() {
        promise = 22;
        GaveTheDayBefore x = of("p0090,0;p0090,1;p0001,0;p4000,0;p0090,0;");
        due("who finds, or is somebody's TO, begins", x.begins(), 8 + 16);
        x.set(3, 0);
        due("LEAVE 0", x.begins(), 2 + 8 + 16);
        x.put(3, 0, 1);
        due("a ROUND's next", x.begins(), 2);
        x.put(2, 0, 0);
        due("a ROUND's TO does not matter", x.begins(), 1 + 2 + 4);
        x.put(1, 2, 1);
        x.put(1, 0, 1);
        due("who has begins", x.begins(), 1 + 4);
        GaveTheDayBefore last = of("p0090,0;p4091,0;");
        due("gone round", last.begins(), 0);
        due("nobody", new GaveTheDayBefore().begins(), 0);
        due("itself does not help", of("p0000,0;").begins(), 1);
    }

    private static void helps() {
        promise = 23;
        GaveTheDayBefore x = of("p0092,0;p0093,0;p0093,0;p0090,0;p0090,0;");
        due("helps()", x.helps(), 1);
        x.put(1, 0, 2);
        due("helps()", x.helps(), 2);
        x.put(2, 0, 2);
        due("no more than as many", x.helps(), -9);
        due("all begin", of("p0095,0;").helps(), -9);
        due("nobody", new GaveTheDayBefore().helps(), -9);
    }

    private static void byLaw() {
        promise = 24;
        GaveTheDayBefore x = pair();
        due("ONCE", x.byLaw(0, 1, 2), 3);
        x.put(1, 1, 30);
        int[] want = {10, 5, 20, 10, 10, 5};
        for (int law = 0; law <= 5; law++) due("byLaw(" + law + ", 1, 2)", x.byLaw(law, 1, 2), want[law]);
        due("byLaw(6, 2, -1)", x.byLaw(6, 2, -1), -2);
        due("byLaw(-1, 1, 0)", x.byLaw(-1, 1, 0), -2);
        due("byLaw(5, 2, -1)", x.byLaw(5, 2, -1), -1);
        due("byLaw(5, 1, -1)", x.byLaw(5, 1, -1), -4);
        due("byLaw(5, 1, 61)", x.byLaw(5, 1, 61), -6);
        due("the law stays", x.set(0, 0), 0);
    }

    private static void byBack() {
        promise = 25;
        GaveTheDayBefore x = of("p10910,50;p1008,50;");
        x.put(0, 2, 1);
        due("byBack(0, 0, 2)", x.byBack(0, 0, 2), 10);
        due("byBack(1, 0, 2)", x.byBack(1, 0, 2), 1);
        x.day();
        due("the past is counted by it, too", x.byBack(1, 0, 1), 1);
        due("and by none", x.byBack(0, 0, 1), 10);
        due("BACK stays", x.set(2, 0), 0);
        due("byBack(-1, 2, 0)", x.byBack(-1, 2, 0), -1);
        due("byBack(-1, 0, 0)", x.byBack(-1, 0, 0), -4);
        due("byBack(6, 0, -1)", x.byBack(6, 0, -1), -4);
        due("byBack(6, 0, 0)", x.byBack(6, 0, 0), -6);
        due("byBack(5, 0, 61)", x.byBack(5, 0, 61), -6);
    }

    private static void leastLaw() {
        promise = 26;
        GaveTheDayBefore x = pair();
        due("of several the least", x.leastLaw(1, 0), 0);
        x.put(1, 1, 30);
        due("leastLaw(1, 2)", x.leastLaw(1, 2), 1);
        due("the law stays", x.set(0, 5), 0);
        due("leastLaw(1, 2) from another law", x.leastLaw(1, 2), 1);
        due("leastLaw(2, 0)", x.leastLaw(2, 0), -1);
        due("leastLaw(0, -1)", x.leastLaw(0, -1), -4);
        due("leastLaw(0, 61)", x.leastLaw(0, 61), -6);
    }

    private static void rowOfNumbers() {
        promise = 27;
        GaveTheDayBefore x = new GaveTheDayBefore();
        due("row(-1)", x.row(-1), -4);
        due("row(10000)", x.row(10000), -6);
        for (int i = 1; i <= 12; i++) due("row(9999)", x.row(9999), i);
        due("row(0), the 13th", x.row(0), -6);
        due("row(-1), the 13th", x.row(-1), -4);
        due("count(6)", x.count(6), 12);
    }

    private static void found() {
        promise = 28;
        GaveTheDayBefore x = pair();
        row(x, 1, 3, 1, 3, 2);
        due("found(2)", x.found(2), -1);
        due("it stays", x.count(6), 5);
        due("found(1)", x.found(1), 4);
        due("none then", x.count(6), 0);
        row(x, 0, 2);
        due("less is not found", x.found(1), -9);
        due("none then", x.count(6), 0);
        due("of no numbers", x.found(0), -9);
        row(x, 6);
        due("the first evening is today's", x.found(0), 0);
    }

    private static void judge() {
        promise = 29;
        GaveTheDayBefore x = pair();
        row(x, 1, 3, 1, 3, 0);
        due("judge(-1)", x.judge(-1), -1);
        due("it stays", x.count(6), 5);
        due("less is judged, too", x.judge(1), 4);
        due("none then", x.count(6), 0);
        row(x, 1, 3, 1, 3);
        due("judge(1)", x.judge(1), -9);
        row(x, 1, 4);
        due("more", x.judge(1), 1);
        due("of no numbers", x.judge(0), -9);
    }

    private static void told() {
        promise = 30;
        GaveTheDayBefore x = pair();
        due("of no numbers", x.told(), -9);
        row(x, 0, 1, 3, 0, 9, 1);
        due("all can", x.told(), -9);
        due("none then", x.count(6), 0);
        due("in mind", x.person(0, 3), 4);
        row(x, 0, 1, 3, 0, 9, 2);
        due("one behind the other", x.told(), 3);
        row(x, 1, 0, 10, 0, 1, 5);
        due("what is lying can't be given", x.told(), 3);
        row(x, 0, 1, 1, 0);
        due("the size", x.told(), 4);
        row(x, 0, 0, 1, 0, 1);
        due("one ahead can't", x.told(), 0);
        row(x, 0, 1, 0);
        due("nothing can't be given", x.told(), 0);
        row(x, 9, 0, 1);
        due("takers don't give", x.told(), 0);
        row(x, 0, 2, 1);
        due("to nobody", x.told(), 0);
        due("nothing is refused", x.count(11) + x.count(14) + x.count(16), 0);
    }

    private static void seeds() {
        promise = 31;
        GaveTheDayBefore x = of("p0090,0;p0090,0;p0090,0;");
        // z 1 becomes 1103527590: 16838, then 2524885223 (an int, without its sign's bit 377401575): 5758.
        due("seeds(1, 1)", x.seeds(1, 1), 8);
        // Then 662824084: 10113, and 3295386429 (1147902781): 17515.
        due("seeds(2, 1)", x.seeds(2, 1), 8 + 5);
        due("the same again", x.seeds(2, 1), 13);
        due("in mind", x.count(2), 0);
        due("seeds(0, 1)", x.seeds(0, 1), -4);
        due("seeds(21, 1)", x.seeds(21, 1), -6);
        GaveTheDayBefore full = of("p0099999,0;");
        due("9999 at most", full.seeds(20, 5), 9999);
        GaveTheDayBefore nobody = new GaveTheDayBefore();
        due("nobody", nobody.seeds(1, 1), -3);
        due("nobody, below", nobody.seeds(0, 1), -4);
        due("nobody, above", nobody.seeds(21, 1), -6);
        // The first one of a pair (16838 is even) finds 8 in the morning and gives all of it to takers.
        GaveTheDayBefore giver = of("p1090,0;p0090,0;");
        due("what is found in the morning can be given on that day", giver.seeds(1, 1), 0);
    }

    private static void image() {
        promise = 32;
        GaveTheDayBefore x = pair();
        due("image()", x.image(), 0);
        x.day();
        due("image()", x.image(), 1);
        x.day();
        due("restore()", x.restore(), 1);
        due("person(1, 3)", x.person(1, 3), 1);
        due("person(1, 8)", x.person(1, 8), 10);
    }

    private static void restore() {
        promise = 33;
        GaveTheDayBefore x = new GaveTheDayBefore();
        due("there is none", x.restore(), -3);
        x.image();
        tell(x, "p0094,0;p10010,3;l452;");
        x.set(3, 7);
        x.row(5);
        x.feed('p');
        due("restore()", x.restore(), 0);
        due("nobody", x.count(0), 0);
        due("LAW", x.set(0, 0), 0);
        due("SPAN", x.set(1, 3), 3);
        due("BACK", x.set(2, 0), 0);
        due("FREE", x.set(3, 1), 1);
        due("the ROW stays", x.count(6), 1);
        due("letters stay", x.count(5), 1);
        due("REFUSALS stay", x.count(13), 1);
        GaveTheDayBefore y = pair();
        y.give(0, 1, 2);
        y.put(1, 2, 9);
        y.image();
        y.day();
        y.put(0, 1, 50);
        due("restore()", y.restore(), 0);
        due("what is lying", y.person(1, 5), 2);
        due("given today", y.person(0, 7), 2);
        due("TO", y.person(1, 2), 9);
        due("FINDS", y.person(0, 4), 0);
        y.day();
        due("it can be restored again", y.restore(), 0);
    }

    private static void count() {
        promise = 34;
        GaveTheDayBefore x = of("p0594,7;p1006,0;");
        x.give(0, 1, 1);
        x.give(1, 9, 2);
        x.feed('l');
        x.row(3);
        x.row(4);
        int[] want = {2, 0, 7, 1, 3, 1, 2};
        for (int what = 0; what <= 6; what++) due("count(" + what + ")", x.count(what), want[what]);
        x.gives(7);
        x.set(9, 0);
        x.set(9, 0);
        x.restore();
        x.row(-1);
        x.row(10000);
        int[] refused = {1, 2, 1, 1, 0, 1};
        for (int i = 0; i < 6; i++) due("count(" + (11 + i) + ")", x.count(11 + i), refused[i]);
        for (int what : new int[] {-1, 7, 10, 17, Integer.MIN_VALUE, Integer.MAX_VALUE}) due("count(" + what + ")", x.count(what), -9);
        due("-9 is no refusal", x.count(12), 2);
        x.evening();
        due("count(1)", x.count(1), 1);
        due("count(3)", x.count(3), 0);
        due("count(4)", x.count(4), 0);
    }
}
