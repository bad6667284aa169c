import java.util.Random;

/** Runs of calls by seeds, every answer held against PlainModel's; the state is looked at behind every call. */
public final class RandomRunsTest {
    private static final int RUNS = 2000;
    private static final int[] SIGNS = {'p', 'l', ',', ';', '0', '1', '5', '9', 'x'};

    private GaveTheDayBefore real = new GaveTheDayBefore();
    private PlainModel model = new PlainModel();
    private final StringBuilder calls = new StringBuilder();
    private final Random dice;
    private int used;

    private RandomRunsTest(long seed) {
        dice = new Random(seed);
    }

    public static void main(String[] args) {
        int wrong = 0;
        for (int run = 0; run < RUNS && wrong < 5; run++) {
            RandomRunsTest test = new RandomRunsTest(run);
            String fault = test.live();
            if (fault != null) {
                wrong++;
                System.out.println("run " + run + ": " + fault + "\n  behind" + test.calls);
            }
        }
        System.out.println((RUNS - wrong) + " passed, " + wrong + " failed");
        if (wrong != 0) System.exit(1);
    }

    private String live() {
        String fault = feedLand();
        boolean wild = dice.nextInt(4) == 0;
        for (int i = 0; i < 40 && used < 440 && fault == null; i++) {
            fault = dice.nextInt(12) == 0 ? feedLand() : oneCall(dice.nextInt(31), wild);
            if (fault == null && i % 8 == 7) fault = lookAround();
        }
        return fault;
    }

    private String due(String call, int got, int want) {
        used++;
        calls.append(' ').append(call).append('=').append(want);
        return got == want ? null : call + " answered " + got + ", due is " + want;
    }

    private int below(int n) {
        return dice.nextInt(n);
    }

    private int digit(int inRange) {
        return below(25) == 0 ? below(10) : below(inRange);
    }

    private String landText() {
        StringBuilder text = new StringBuilder();
        int statements = 1 + below(6);
        for (int i = 0; i < statements; i++) {
            if (below(4) == 0) {
                text.append('l').append(digit(6)).append(below(25) == 0 ? 0 : 1 + below(5)).append(digit(6)).append(';');
            } else {
                int has = below(3) == 0 ? below(10000) : below(2) == 0 ? below(30) : 0;
                int to = below(3) == 0 ? 9 : below(6) == 0 ? below(10) : below(model.count(0) + i + 1) % 10;
                text.append('p').append(digit(8)).append(below(10)).append(to).append(has).append(',').append(below(3) == 0 ? 0 : below(100)).append(';');
            }
        }
        if (below(8) == 0) text.setCharAt(below(text.length()), (char) SIGNS[below(SIGNS.length)]);
        if (below(10) == 0) text.setLength(below(text.length() + 1));
        return text.toString();
    }

    private String feedLand() {
        String text = landText();
        for (int i = 0; i < text.length(); i++) {
            int c = text.charAt(i);
            String fault = due("feed(" + (char) c + ")", real.feed(c), model.feed(c));
            if (fault != null) return fault;
        }
        return due("land()", real.land(), model.land());
    }

    private int number(int least, int most, boolean wild) {
        if (wild && below(6) == 0) {
            int[] odd = {least - 1, most + 1, -1, Integer.MIN_VALUE, Integer.MAX_VALUE, least, most};
            return odd[below(odd.length)];
        }
        return least + below(most - least + 1);
    }

    private String oneCall(int which, boolean wild) {
        int p = number(0, wild ? 5 : Math.max(0, model.count(0) - 1), wild);
        int n = number(0, below(4) == 0 ? 60 : 8, wild);
        int few = number(1, below(5) == 0 ? 6 : 3, wild);
        int units = number(0, below(2) == 0 ? 9999 : 100, wild);
        switch (which) {
            case 0: case 1: case 2: return due("day()", real.day(), model.day());
            case 3: return due("evening()", real.evening(), model.evening());
            case 4: case 5: case 6: {
                int to = below(4) == 0 ? 9 : number(0, 5, wild);
                int much = below(3) == 0 ? number(1, 9999, wild) : 1 + below(3);
                return due("give(" + p + ", " + to + ", " + much + ")", real.give(p, to, much), model.give(p, to, much));
            }
            case 7: {
                int what = number(0, 2, wild);
                int v = what == 0 ? units : what == 1 ? number(0, 99, wild) : below(3) == 0 ? 9 : number(0, 5, wild);
                return due("put(" + p + ", " + what + ", " + v + ")", real.put(p, what, v), model.put(p, what, v));
            }
            case 8: case 9: {
                int what = number(0, 3, wild);
                int v = what == 3 ? number(0, below(2) * 99, wild) : number(what == 1 ? 1 : 0, 5, wild);
                return due("set(" + what + ", " + v + ")", real.set(what, v), model.set(what, v));
            }
            case 10: return due("gives(" + p + ")", real.gives(p), model.gives(p));
            case 11: return due("after(" + p + ", " + n + ")", real.after(p, n), model.after(p, n));
            case 12: return due("all(" + n + ")", real.all(n), model.all(n));
            case 13: return due("enough(" + p + ", " + units + ")", real.enough(p, units), model.enough(p, units));
            case 14: return due("richest(" + n + ")", real.richest(n), model.richest(n));
            case 15: return due("lost(" + n + ")", real.lost(n), model.lost(n));
            case 16: return due("grows(" + n + ")", real.grows(n), model.grows(n));
            case 17: return due("rest()", real.rest(), model.rest());
            case 18: return due("most(" + p + ", " + few + ")", real.most(p, few), model.most(p, few));
            case 19: {
                int i = number(0, 3, wild);
                return due("choice(" + p + ", " + few + ", " + i + ")", real.choice(p, few, i), model.choice(p, few, i));
            }
            case 20: return due("gap(" + p + ", " + few + ")", real.gap(p, few), model.gap(p, few));
            case 21: return due("feast(" + p + ", " + few + ", " + units + ")", real.feast(p, few, units), model.feast(p, few, units));
            case 22: return due("helps()", real.helps(), model.helps());
            case 23: {
                int law = number(0, 5, wild);
                return due("byLaw(" + law + ", " + p + ", " + n + ")", real.byLaw(law, p, n), model.byLaw(law, p, n));
            }
            case 24: {
                int back = number(0, 5, wild);
                return due("byBack(" + back + ", " + p + ", " + n + ")", real.byBack(back, p, n), model.byBack(back, p, n));
            }
            case 25: return due("leastLaw(" + p + ", " + n + ")", real.leastLaw(p, n), model.leastLaw(p, n));
            case 26: case 27: return rowAndLook(p, wild);
            case 28: {
                int z = dice.nextInt(), days = number(1, 20, wild);
                return due("seeds(" + days + ", " + z + ")", real.seeds(days, z), model.seeds(days, z));
            }
            case 29: return due("image()", real.image(), model.image());
            default: return due("restore()", real.restore(), model.restore());
        }
    }

    private String rowAndLook(int p, boolean wild) {
        int kind = below(3);
        int size = below(13);
        for (int i = 0; i < size; i++) {
            int v = kind == 2 ? giftNumber(i % 3) : likelyHas(p, i, wild);
            String fault = due("row(" + v + ")", real.row(v), model.row(v));
            if (fault != null) return fault;
        }
        if (kind == 0) return due("found(" + p + ")", real.found(p), model.found(p));
        if (kind == 1) return due("judge(" + p + ")", real.judge(p), model.judge(p));
        return due("told()", real.told(), model.told());
    }

    private int giftNumber(int place) {
        return place == 0 ? below(6) : place == 1 ? (below(3) == 0 ? 9 : below(6)) : below(4);
    }

    private int likelyHas(int p, int i, boolean wild) {
        boolean there = model.w.is(p);
        if (!there || below(8) == 0) return number(0, 9999, wild);
        return model.w.behind(i + 1).people.get(p).has;
    }

    private String lookAround() {
        for (int what : new int[] {0, 1, 2, 3, 4, 5, 6, 11, 12, 13, 14, 15, 16}) {
            String fault = due("count(" + what + ")", real.count(what), model.count(what));
            if (fault != null) return fault;
        }
        String fault = due("begins()", real.begins(), model.begins());
        for (int p = 0; p < model.count(0) && fault == null; p++) {
            for (int what = 2; what <= 8 && fault == null; what++) {
                fault = due("person(" + p + ", " + what + ")", real.person(p, what), model.person(p, what));
            }
        }
        return fault;
    }
}
