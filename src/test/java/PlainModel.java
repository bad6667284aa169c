import java.util.ArrayList;
import java.util.Arrays;
import java.util.List;

/**
 * The document once more, as slowly and plainly as can be: every gift is kept for ever, everything is
 * counted anew when it is asked for, every row of choices is lived through from its first morning.
 * RandomRunsTest holds the class against it.
 */
final class PlainModel {
    record Gift(int day, int who, int whom, int n) { }

    static final class One {
        int kind, figure, to, has, finds;

        One copy() {
            One o = new One();
            o.kind = kind;
            o.figure = figure;
            o.to = to;
            o.has = has;
            o.finds = finds;
            return o;
        }
    }

    static final class World {
        List<One> people = new ArrayList<>();
        List<Gift> gifts = new ArrayList<>();
        int day = 0, law = 0, span = 3, back = 0, free = 1, lost = 0;

        World copy() {
            World w = new World();
            for (One o : people) w.people.add(o.copy());
            w.gifts.addAll(gifts);
            w.day = day;
            w.law = law;
            w.span = span;
            w.back = back;
            w.free = free;
            return w;
        }

        boolean is(int p) { return p >= 0 && p < people.size(); }

        int given(int p, int d) {
            return gifts.stream().filter(g -> g.day == d && g.who == p).mapToInt(Gift::n).sum();
        }

        int got(int p, int d) {
            return gifts.stream().filter(g -> g.day == d && g.whom == p).mapToInt(Gift::n).sum();
        }

        boolean gaveTo(int p, int q, int first, int last) {
            for (Gift g : gifts) if (g.who == p && g.whom == q && g.day >= first && g.day <= last) return true;
            return false;
        }

        int counted(int p, int d) {
            int sum = 0;
            for (Gift g : gifts) {
                if (g.day != d || g.who != p) continue;
                if (back > 0 && g.whom != 9 && gaveTo(g.whom, p, d - back, d)) continue;
                sum += g.n;
            }
            return sum;
        }

        int leave(int p) {
            if (people.get(p).kind == 7) return 9999;
            int y = counted(p, day - 1);
            int half = y / 2 + y % 2;
            int together = 0, best = 0;
            for (int d = day - span; d < day; d++) {
                together += counted(p, d);
                best = Math.max(best, counted(p, d));
            }
            int[] by = {y, half, 2 * y, together, best, half + people.get(p).figure};
            return Math.min(9999, Math.max(free, by[law]));
        }

        int amount(int p) {
            One o = people.get(p);
            int grew = Math.min(o.has, o.finds + got(p, day - 1));
            if (o.kind == 0) return 0;
            if (o.kind == 1 || o.kind == 4 || o.kind == 6) return o.has;
            if (o.kind == 2) return o.has / 2;
            if (o.kind == 3) return grew;
            if (o.kind == 5) return day < 10 * o.figure ? grew : 0;
            return day % (o.figure + 1) == 0 ? o.has / 2 : 0;
        }

        int taker(int p) {
            One o = people.get(p);
            if (o.kind == 4) return (p + 1) % people.size();
            if (o.kind == 6 && day % 2 == 1) return 9;
            return o.to;
        }

        int cannotGive(int p, int q, int n) {
            if (!is(p) || !(q == 9 || is(q)) || p == q) return -1;
            if (n < 1) return -4;
            return n > people.get(p).has ? -6 : 0;
        }

        void give(int p, int q, int n) {
            people.get(p).has -= n;
            gifts.add(new Gift(day, p, q, n));
        }

        void evening() {
            int[] leaves = new int[people.size()];
            for (int p = 0; p < leaves.length; p++) leaves[p] = leave(p);
            for (int p = 0; p < leaves.length; p++) {
                One o = people.get(p);
                int lying = got(p, day) + o.finds;
                int carried = Math.min(lying, leaves[p]);
                lost += lying - carried;
                o.has += carried;
                if (o.has > 9999) {
                    lost += o.has - 9999;
                    o.has = 9999;
                }
            }
            day++;
        }

        void dayByKinds(int chooser, int choice) {
            for (int p = 0; p < people.size(); p++) {
                int n = amount(p), q = taker(p);
                if (p == chooser) {
                    int has = people.get(p).has;
                    n = choice == 0 ? 0 : choice == 1 ? has / 2 : has;
                    q = people.get(p).to == p ? 9 : people.get(p).to;
                }
                if (q != p && n != 0) give(p, q, n);
            }
            evening();
        }

        World behind(int n) {
            World w = copy();
            for (int i = 0; i < n; i++) w.dayByKinds(-1, 0);
            return w;
        }

        int all() { return people.stream().mapToInt(o -> o.has).sum(); }

        int[] haves() { return people.stream().mapToInt(o -> o.has).toArray(); }
    }

    World w = new World();
    World image = null;
    StringBuilder letters = new StringBuilder();
    List<Integer> row = new ArrayList<>();
    int[] refusals = new int[7];

    int no(int r) {
        refusals[-r]++;
        return r;
    }

    int feed(int letter) {
        if (letter < 0) return no(-4);
        if (letter > 255 || letters.length() == 64) return no(-6);
        letters.append((char) letter);
        return letters.length();
    }

    private static final String STATEMENT = "(?:p[0-9]{4,7},[0-9]{1,2};|l[0-9]{3};)";

    /** Whether some text that begins so is a row of statements. */
    private static boolean canGoOn(String text) {
        for (String tail : new String[] {"", ";", "0;", "00;", "000;", ",0;", "0,0;", "00,0;", "000,0;", "0000,0;"}) {
            if ((text + tail).matches(STATEMENT + "*")) return true;
        }
        return false;
    }

    int land() {
        String text = letters.toString();
        letters.setLength(0);
        for (int i = 0; i < text.length(); i++) if (!canGoOn(text.substring(0, i + 1))) return -1000 - i;
        if (!text.matches(STATEMENT + "+")) return -1000 - text.length();
        World next = w.copy();
        int at = 0, n = 0;
        for (String s : text.split(";")) {
            if (!comes(next, s)) return -2000 - at;
            at += s.length() + 1;
            n++;
        }
        w = next;
        return n;
    }

    private static boolean comes(World next, String s) {
        int a = s.charAt(1) - '0', b = s.charAt(2) - '0', c = s.charAt(3) - '0';
        if (s.charAt(0) == 'l') {
            if (a > 5 || b < 1 || b > 5 || c > 5) return false;
            next.law = a;
            next.span = b;
            next.back = c;
            return true;
        }
        if (next.day > 0 || next.people.size() == 6 || a > 7) return false;
        if (c != 9 && c > next.people.size()) return false;
        One o = new One();
        o.kind = a;
        o.figure = b;
        o.to = c;
        String[] parts = s.substring(4).split(",");
        o.has = Integer.parseInt(parts[0]);
        o.finds = Integer.parseInt(parts[1]);
        next.people.add(o);
        return true;
    }

    int person(int p, int what) {
        if (!w.is(p)) return no(-1);
        if (what < 0 || what > 8) return no(-2);
        One o = w.people.get(p);
        int[] of = {o.kind, o.figure, o.to, o.has, o.finds, w.got(p, w.day), w.leave(p), w.given(p, w.day), w.counted(p, w.day - 1)};
        return of[what];
    }

    int put(int p, int what, int v) {
        if (!w.is(p)) return no(-1);
        if (what < 0 || what > 2) return no(-2);
        if (what == 2 && v != 9 && !w.is(v)) return no(-1);
        if (v < 0) return no(-4);
        if (what == 0 && v > 9999 || what == 1 && v > 99) return no(-6);
        One o = w.people.get(p);
        int was = what == 0 ? o.has : what == 1 ? o.finds : o.to;
        if (what == 0) o.has = v;
        if (what == 1) o.finds = v;
        if (what == 2) o.to = v;
        return was;
    }

    int set(int what, int v) {
        if (what < 0 || what > 3) return no(-2);
        if (v < (what == 1 ? 1 : 0)) return no(-4);
        if (v > (what == 3 ? 99 : 5)) return no(-6);
        int was = what == 0 ? w.law : what == 1 ? w.span : what == 2 ? w.back : w.free;
        if (what == 0) w.law = v;
        if (what == 1) w.span = v;
        if (what == 2) w.back = v;
        if (what == 3) w.free = v;
        return was;
    }

    int give(int p, int q, int n) {
        int r = w.cannotGive(p, q, n);
        if (r != 0) return no(r);
        w.give(p, q, n);
        return w.people.get(p).has;
    }

    int evening() {
        if (w.day == 999) return no(-6);
        w.evening();
        return w.day;
    }

    int day() {
        if (w.day == 999) return no(-6);
        w.dayByKinds(-1, 0);
        return w.day;
    }

    int gives(int p) {
        if (!w.is(p)) return no(-1);
        return w.taker(p) == p ? 0 : w.amount(p);
    }

    int after(int p, int n) {
        if (!w.is(p)) return no(-1);
        if (n < 0) return no(-4);
        if (n > 60) return no(-6);
        return w.behind(n).people.get(p).has;
    }

    int all(int n) {
        if (n < 0) return no(-4);
        if (n > 60) return no(-6);
        return w.behind(n).all();
    }

    int enough(int p, int much) {
        if (!w.is(p)) return no(-1);
        if (much < 0) return no(-4);
        if (much > 9999) return no(-6);
        World m = w.copy();
        for (int n = 0; n <= 60; n++) {
            if (m.people.get(p).has >= much) return n;
            m.dayByKinds(-1, 0);
        }
        return -9;
    }

    int richest(int n) {
        if (n < 0) return no(-4);
        if (n > 60) return no(-6);
        int[] has = w.behind(n).haves();
        int most = Arrays.stream(has).max().orElse(-1);
        for (int p = 0; p < has.length; p++) if (has[p] == most) return p;
        return -9;
    }

    int lost(int n) {
        if (n < 0) return no(-4);
        if (n > 60) return no(-6);
        return w.behind(n).lost;
    }

    int grows(int n) {
        if (n < 1) return no(-4);
        if (n > 60) return no(-6);
        int then = w.behind(n).all(), now = w.all();
        return then > now ? 1 : then < now ? 2 : 0;
    }

    int rest() {
        List<int[]> evenings = new ArrayList<>();
        World m = w.copy();
        for (int n = 0; n <= 60; n++) {
            evenings.add(m.haves());
            m.dayByKinds(-1, 0);
        }
        for (int n = 0; n <= 58; n++) {
            if (Arrays.equals(evenings.get(n), evenings.get(n + 1)) && Arrays.equals(evenings.get(n), evenings.get(n + 2))) return n;
        }
        return -9;
    }

    private int[] bestRow;
    private int best, leastGiven;

    private void tryAllRows(int p, int n, int much) {
        int rows = 1;
        for (int i = 0; i < n; i++) rows *= 3;
        best = -1;
        leastGiven = -9;
        for (int r = 0; r < rows; r++) {
            int[] choices = new int[n];
            for (int i = n - 1, rest = r; i >= 0; i--, rest /= 3) choices[i] = rest % 3;
            World m = w.copy();
            int given = 0;
            for (int c : choices) {
                int has = m.people.get(p).has;
                given += c == 0 ? 0 : c == 1 ? has / 2 : has;
                m.dayByKinds(p, c);
            }
            int has = m.people.get(p).has;
            if (has > best) {
                best = has;
                bestRow = choices;
            }
            if (has >= much && (leastGiven < 0 || given < leastGiven)) leastGiven = given;
        }
    }

    int most(int p, int n) {
        if (!w.is(p)) return no(-1);
        if (n < 1) return no(-4);
        if (n > 6) return no(-6);
        tryAllRows(p, n, 0);
        return best;
    }

    int choice(int p, int n, int i) {
        if (!w.is(p)) return no(-1);
        if (n < 1 || i < 0) return no(-4);
        if (n > 6) return no(-6);
        tryAllRows(p, n, 0);
        return i < n ? bestRow[i] : -9;
    }

    int gap(int p, int n) {
        if (!w.is(p)) return 1000000000 - no(-1);
        if (n < 1) return 1000000000 - no(-4);
        if (n > 6) return 1000000000 - no(-6);
        tryAllRows(p, n, 0);
        return best - w.behind(n).people.get(p).has;
    }

    int feast(int p, int n, int much) {
        if (!w.is(p)) return no(-1);
        if (n < 1 || much < 0) return no(-4);
        if (n > 6 || much > 9999) return no(-6);
        tryAllRows(p, n, much);
        return leastGiven;
    }

    int begins() {
        int bits = 0;
        for (int p = 0; p < w.people.size(); p++) {
            One o = w.people.get(p);
            if (o.has > 0) continue;
            if (o.finds > 0 && w.leave(p) > 0) continue;
            boolean served = false;
            for (int q = 0; q < w.people.size(); q++) {
                One other = w.people.get(q);
                int to = other.kind == 4 ? (q + 1) % w.people.size() : other.to;
                if (q != p && other.has > 0 && to == p) served = true;
            }
            if (!served) bits += 1 << p;
        }
        return bits;
    }

    int helps() {
        int cant = Integer.bitCount(begins());
        int who = -9;
        if (cant == 0) return -9;
        for (int p = w.people.size() - 1; p >= 0; p--) {
            int has = w.people.get(p).has;
            if (has > cant && (who < 0 || has >= w.people.get(who).has)) who = p;
        }
        return who;
    }

    int byLaw(int law, int p, int n) {
        if (law < 0 || law > 5) return no(-2);
        if (!w.is(p)) return no(-1);
        if (n < 0) return no(-4);
        if (n > 60) return no(-6);
        World m = w.copy();
        m.law = law;
        return m.behind(n).people.get(p).has;
    }

    int byBack(int back, int p, int n) {
        if (!w.is(p)) return no(-1);
        if (n < 0 || back < 0) return no(-4);
        if (n > 60 || back > 5) return no(-6);
        World m = w.copy();
        m.back = back;
        return m.behind(n).people.get(p).has;
    }

    int leastLaw(int p, int n) {
        if (!w.is(p)) return no(-1);
        if (n < 0) return no(-4);
        if (n > 60) return no(-6);
        int least = 0;
        for (int law = 1; law <= 5; law++) if (byLaw(law, p, n) < byLaw(least, p, n)) least = law;
        return least;
    }

    int row(int v) {
        if (v < 0) return no(-4);
        if (v > 9999 || row.size() == 12) return no(-6);
        row.add(v);
        return row.size();
    }

    int found(int p) {
        if (!w.is(p)) return no(-1);
        int at = -9;
        for (int i = row.size() - 1; i >= 0; i--) if (row.get(i) > w.behind(i + 1).people.get(p).has) at = i;
        row.clear();
        return at;
    }

    int judge(int p) {
        if (!w.is(p)) return no(-1);
        int at = -9;
        for (int i = row.size() - 1; i >= 0; i--) if (row.get(i) != w.behind(i + 1).people.get(p).has) at = i;
        row.clear();
        return at;
    }

    int told() {
        World m = w.copy();
        List<Integer> r = new ArrayList<>(row);
        row.clear();
        for (int i = 0; i + 3 <= r.size(); i += 3) {
            if (m.cannotGive(r.get(i), r.get(i + 1), r.get(i + 2)) != 0) return i;
            m.give(r.get(i), r.get(i + 1), r.get(i + 2));
        }
        return r.size() % 3 == 0 ? -9 : r.size();
    }

    private int z;

    private int draw(int n) {
        z = (int) ((long) z * 1103515245L + 12345L);
        return (int) ((z & 0x7fffffffL) >> 16) % n;
    }

    int seeds(int n, int seed) {
        if (n < 1) return no(-4);
        if (n > 20) return no(-6);
        if (w.people.isEmpty()) return no(-3);
        z = seed;
        World m = w.copy();
        for (int i = 0; i < n; i++) {
            One o = m.people.get(draw(m.people.size()));
            o.has = Math.min(9999, o.has + draw(10));
            m.dayByKinds(-1, 0);
        }
        return m.all();
    }

    int image() {
        image = w.copy();
        return w.day;
    }

    int restore() {
        if (image == null) return no(-3);
        w = image.copy();
        return w.day;
    }

    int count(int what) {
        int lying = 0, given = 0;
        for (int p = 0; p < w.people.size(); p++) {
            lying += w.got(p, w.day);
            given += w.given(p, w.day);
        }
        switch (what) {
            case 0: return w.people.size();
            case 1: return w.day;
            case 2: return w.all();
            case 3: return lying;
            case 4: return given;
            case 5: return letters.length();
            case 6: return row.size();
            default: return what >= 11 && what <= 16 ? refusals[what - 10] : -9;
        }
    }
}
