/** Runs of calls that many tests begin with. */
class Calls {
    static int tell(GaveTheDayBefore x, String letters) {
        for (char c : letters.toCharArray()) x.feed(c);
        return x.land();
    }

    /** A new object with a land in it. */
    static GaveTheDayBefore of(String letters) {
        GaveTheDayBefore x = new GaveTheDayBefore();
        int answer = tell(x, letters);
        if (answer < 1) throw new IllegalStateException("land() of " + letters + " answered " + answer);
        return x;
    }

    static GaveTheDayBefore days(GaveTheDayBefore x, int n) {
        for (int i = 0; i < n; i++) x.day();
        return x;
    }

    static GaveTheDayBefore evenings(GaveTheDayBefore x, int n) {
        for (int i = 0; i < n; i++) x.evening();
        return x;
    }

    static void row(GaveTheDayBefore x, int... numbers) {
        for (int v : numbers) x.row(v);
    }

    /** 1 gives all to 0, who keeps; 1 finds 3: it has 1, then 3, in turns, and 0 has one more every day. */
    static GaveTheDayBefore pair() {
        return of("p0094,0;p10010,3;");
    }

    /** One who has 10 and finds 20, and by TWICE may carry home twice what it gave the day before. */
    static GaveTheDayBefore finder() {
        return of("p00910,20;p00150,0;l230;");
    }
}
