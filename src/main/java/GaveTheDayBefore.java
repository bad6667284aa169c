/** People who may carry home, of a day, no more than they gave away the day before. */
public final class GaveTheDayBefore {
    private static final int FINE = 0;
    private static final int NOBODY = -1;
    private static final int OTHER = -2;
    private static final int STATE = -3;
    private static final int BELOW = -4;
    private static final int ROOM = -6;
    private static final int NONE = -9;
    private static final int GAP_REFUSED = 1000000000;

    private static final int MOST_PEOPLE = 6;
    private static final int TAKERS = 9;
    private static final int MOST_UNITS = 9999;
    private static final int MOST_FINDS = 99;
    private static final int LAST_DAY = 999;
    private static final int MOST_DAYS_IN_MIND = 60;
    private static final int MOST_CHOICES = 6;
    private static final int MOST_SEED_DAYS = 20;
    private static final int MOST_IN_ROW = 12;
    private static final int GREATEST_LETTER = 255;
    private static final int LAST_LAW = 5;
    private static final int LAST_BACK = 5;

    private static final int[] SETTING_LEAST = {0, 1, 0, 0};
    private static final int[] SETTING_MOST = {5, 5, 5, 99};

    private final Village now = new Village();
    private final Village saved = new Village();
    private final Village mind = new Village();
    private final Search search = new Search();
    private final Letters letters = new Letters();
    private final int[] morning = new int[MOST_PEOPLE];
    private final int[] numbers = new int[MOST_IN_ROW];
    private final int[] refusals = new int[1 - ROOM];
    private int numbersSize;
    private boolean imageTaken;

    public GaveTheDayBefore() {
    }

    public int feed(int letter) {
        if (letter < 0) {
            return refuse(BELOW);
        }
        if (letter > GREATEST_LETTER || letters.isFull()) {
            return refuse(ROOM);
        }
        return letters.add(letter);
    }

    public int land() {
        int answer = readLand();
        letters.forget();
        return answer;
    }

    public int person(int person, int what) {
        if (!now.exists(person)) {
            return refuse(NOBODY);
        }
        switch (what) {
            case 0: return now.kind[person];
            case 1: return now.figure[person];
            case 2: return now.to[person];
            case 3: return now.has[person];
            case 4: return now.finds[person];
            case 5: return now.gifts.gotToday(person);
            case 6: return now.leave(person);
            case 7: return now.gifts.givenToday(person);
            case 8: return now.gifts.countedYesterday(person);
            default: return refuse(OTHER);
        }
    }

    public int put(int person, int what, int v) {
        int refusal = putRefusal(person, what, v);
        if (refusal != FINE) {
            return refuse(refusal);
        }
        int[] fields = what == 0 ? now.has : what == 1 ? now.finds : now.to;
        int was = fields[person];
        fields[person] = v;
        return was;
    }

    public int set(int what, int v) {
        if (what < 0 || what >= SETTING_LEAST.length) {
            return refuse(OTHER);
        }
        int refusal = outside(v, SETTING_LEAST[what], SETTING_MOST[what]);
        if (refusal != FINE) {
            return refuse(refusal);
        }
        return now.changeSetting(what, v);
    }

    public int give(int person, int to, int n) {
        int refusal = now.giftRefusal(person, to, n);
        if (refusal != FINE) {
            return refuse(refusal);
        }
        now.hand(person, to, n);
        return now.has[person];
    }

    public int evening() {
        if (now.today >= LAST_DAY) {
            return refuse(ROOM);
        }
        now.endDay();
        return now.today;
    }

    public int day() {
        if (now.today >= LAST_DAY) {
            return refuse(ROOM);
        }
        now.passDay();
        return now.today;
    }

    public int gives(int person) {
        return now.exists(person) ? now.giftByKind(person) : refuse(NOBODY);
    }

    public int after(int person, int n) {
        int refusal = ofOneRefusal(person, n, 0, MOST_DAYS_IN_MIND);
        if (refusal != FINE) {
            return refuse(refusal);
        }
        think(n);
        return mind.has[person];
    }

    public int all(int n) {
        int refusal = outside(n, 0, MOST_DAYS_IN_MIND);
        if (refusal != FINE) {
            return refuse(refusal);
        }
        think(n);
        return mind.sumOfHas();
    }

    public int enough(int person, int much) {
        int refusal = ofOneRefusal(person, much, 0, MOST_UNITS);
        if (refusal != FINE) {
            return refuse(refusal);
        }
        mind.become(now);
        for (int n = 0; n <= MOST_DAYS_IN_MIND; n++) {
            if (mind.has[person] >= much) {
                return n;
            }
            mind.passDay();
        }
        return NONE;
    }

    public int richest(int n) {
        int refusal = outside(n, 0, MOST_DAYS_IN_MIND);
        if (refusal != FINE) {
            return refuse(refusal);
        }
        think(n);
        return mind.richestAbove(-1);
    }

    public int lost(int n) {
        int refusal = outside(n, 0, MOST_DAYS_IN_MIND);
        if (refusal != FINE) {
            return refuse(refusal);
        }
        mind.become(now);
        int sum = 0;
        for (int i = 0; i < n; i++) {
            sum += mind.passDay();
        }
        return sum;
    }

    public int grows(int n) {
        int refusal = outside(n, 1, MOST_DAYS_IN_MIND);
        if (refusal != FINE) {
            return refuse(refusal);
        }
        think(n);
        int more = mind.sumOfHas() - now.sumOfHas();
        return more > 0 ? 1 : more == 0 ? 0 : 2;
    }

    public int rest() {
        mind.become(now);
        int quiet = 0;
        for (int n = 1; n <= MOST_DAYS_IN_MIND; n++) {
            quiet = quietDayInMind() ? quiet + 1 : 0;
            if (quiet == 2) {
                return n - 2;
            }
        }
        return NONE;
    }

    public int most(int person, int n) {
        int refusal = ofOneRefusal(person, n, 1, MOST_CHOICES);
        if (refusal != FINE) {
            return refuse(refusal);
        }
        search.run(now, person, n, 0);
        return search.best;
    }

    public int choice(int person, int n, int i) {
        int refusal = ofOneRefusal(person, n, 1, MOST_CHOICES);
        if (refusal != NOBODY && i < 0) {
            refusal = BELOW;
        }
        if (refusal != FINE) {
            return refuse(refusal);
        }
        if (i >= n) {
            return NONE;
        }
        search.run(now, person, n, 0);
        return search.bestRow[i];
    }

    public int gap(int person, int n) {
        int refusal = ofOneRefusal(person, n, 1, MOST_CHOICES);
        if (refusal != FINE) {
            return GAP_REFUSED - refuse(refusal);
        }
        search.run(now, person, n, 0);
        think(n);
        return search.best - mind.has[person];
    }

    public int feast(int person, int n, int much) {
        int refusal = ofOneTwiceRefusal(person, outside(n, 1, MOST_CHOICES), outside(much, 0, MOST_UNITS));
        if (refusal != FINE) {
            return refuse(refusal);
        }
        search.run(now, person, n, much);
        return search.leastGiven;
    }

    public int begins() {
        return now.whoCannotBegin();
    }

    public int helps() {
        int helpless = Integer.bitCount(now.whoCannotBegin());
        return helpless == 0 ? NONE : now.richestAbove(helpless);
    }

    public int byLaw(int law, int person, int n) {
        if (law < 0 || law > LAST_LAW) {
            return refuse(OTHER);
        }
        int refusal = ofOneRefusal(person, n, 0, MOST_DAYS_IN_MIND);
        if (refusal != FINE) {
            return refuse(refusal);
        }
        return hasByLaw(law, person, n);
    }

    public int byBack(int back, int person, int n) {
        int refusal = ofOneTwiceRefusal(person, outside(back, 0, LAST_BACK), outside(n, 0, MOST_DAYS_IN_MIND));
        if (refusal != FINE) {
            return refuse(refusal);
        }
        mind.become(now);
        mind.changeSetting(Village.BACK, back);
        mind.passDays(n);
        return mind.has[person];
    }

    public int leastLaw(int person, int n) {
        int refusal = ofOneRefusal(person, n, 0, MOST_DAYS_IN_MIND);
        if (refusal != FINE) {
            return refuse(refusal);
        }
        int least = 0;
        int leastHas = hasByLaw(0, person, n);
        for (int law = 1; law <= LAST_LAW; law++) {
            int has = hasByLaw(law, person, n);
            if (has < leastHas) {
                least = law;
                leastHas = has;
            }
        }
        return least;
    }

    public int row(int v) {
        if (v < 0) {
            return refuse(BELOW);
        }
        if (v > MOST_UNITS || numbersSize >= numbers.length) {
            return refuse(ROOM);
        }
        numbers[numbersSize] = v;
        numbersSize++;
        return numbersSize;
    }

    public int found(int person) {
        if (!now.exists(person)) {
            return refuse(NOBODY);
        }
        return lookAtBook(person, false);
    }

    public int judge(int person) {
        if (!now.exists(person)) {
            return refuse(NOBODY);
        }
        return lookAtBook(person, true);
    }

    public int told() {
        int answer = firstImpossibleGift();
        numbersSize = 0;
        return answer;
    }

    public int seeds(int n, int z) {
        int refusal = outside(n, 1, MOST_SEED_DAYS);
        if (refusal == FINE && now.people == 0) {
            refusal = STATE;
        }
        if (refusal != FINE) {
            return refuse(refusal);
        }
        mind.become(now);
        int seed = z;
        for (int i = 0; i < n; i++) {
            seed = nextSeed(seed);
            int who = draw(seed, mind.people);
            seed = nextSeed(seed);
            mind.find(who, draw(seed, 10));
            mind.passDay();
        }
        return mind.sumOfHas();
    }

    public int image() {
        saved.become(now);
        imageTaken = true;
        return now.today;
    }

    public int restore() {
        if (!imageTaken) {
            return refuse(STATE);
        }
        now.become(saved);
        return now.today;
    }

    public int count(int what) {
        switch (what) {
            case 0: return now.people;
            case 1: return now.today;
            case 2: return now.sumOfHas();
            case 3: return now.sumOfLying();
            case 4: return now.sumOfGiven();
            case 5: return letters.size;
            case 6: return numbersSize;
            case 11: case 12: case 13: case 14: case 15: case 16: return refusals[what - 10];
            default: return NONE;
        }
    }

    private int refuse(int refusal) {
        if (refusal >= ROOM && refusal <= NOBODY) {
            refusals[-refusal]++;
        }
        return refusal;
    }

    private static int outside(int v, int least, int greatest) {
        return v < least ? BELOW : v > greatest ? ROOM : FINE;
    }

    private int ofOneRefusal(int person, int v, int least, int greatest) {
        return now.exists(person) ? outside(v, least, greatest) : NOBODY;
    }

    /** A number below its least is told before one above its greatest, whichever of the two it is. */
    private int ofOneTwiceRefusal(int person, int first, int second) {
        if (!now.exists(person)) {
            return NOBODY;
        }
        if (first == BELOW || second == BELOW) {
            return BELOW;
        }
        return first != FINE ? first : second;
    }

    private int putRefusal(int person, int what, int v) {
        if (!now.exists(person)) {
            return NOBODY;
        }
        if (what < 0 || what > 2) {
            return OTHER;
        }
        if (what == 2) {
            return v == TAKERS || now.exists(v) ? FINE : NOBODY;
        }
        return outside(v, 0, what == 0 ? MOST_UNITS : MOST_FINDS);
    }

    private void think(int days) {
        mind.become(now);
        mind.passDays(days);
    }

    private boolean quietDayInMind() {
        System.arraycopy(mind.has, 0, morning, 0, MOST_PEOPLE);
        mind.passDay();
        for (int p = 0; p < mind.people; p++) {
            if (mind.has[p] != morning[p]) {
                return false;
            }
        }
        return true;
    }

    private int hasByLaw(int law, int person, int n) {
        mind.become(now);
        mind.changeSetting(Village.LAW, law);
        mind.passDays(n);
        return mind.has[person];
    }

    /** All statements come in mind first, so that with a fault nothing has come. */
    private int readLand() {
        int unfit = letters.firstUnfit();
        if (unfit >= 0) {
            return -1000 - unfit;
        }
        mind.become(now);
        int statements = 0;
        int at = 0;
        for (int i = 0; i < Letters.MOST && at < letters.size; i++) {
            if (!comesInMind(at)) {
                return -2000 - at;
            }
            statements++;
            at = letters.next(';', at) + 1;
        }
        now.become(mind);
        return statements;
    }

    private boolean comesInMind(int at) {
        int first = letters.digit(at + 1);
        int second = letters.digit(at + 2);
        int third = letters.digit(at + 3);
        if (letters.isAt('l', at)) {
            return mind.takeLaw(first, second, third);
        }
        int has = letters.number(at + 4);
        int finds = letters.number(letters.next(',', at) + 1);
        return mind.welcome(first, second, third, has, finds);
    }

    private int lookAtBook(int person, boolean exactly) {
        mind.become(now);
        int place = NONE;
        for (int i = 0; i < numbersSize && place == NONE; i++) {
            mind.passDay();
            int has = mind.has[person];
            if (numbers[i] > has || exactly && numbers[i] != has) {
                place = i;
            }
        }
        numbersSize = 0;
        return place;
    }

    private int firstImpossibleGift() {
        mind.become(now);
        int place = 0;
        for (; place + 2 < numbersSize; place += 3) {
            int who = numbers[place];
            int to = numbers[place + 1];
            int n = numbers[place + 2];
            if (mind.giftRefusal(who, to, n) != FINE) {
                return place;
            }
            mind.hand(who, to, n);
        }
        return place == numbersSize ? NONE : numbersSize;
    }

    private static int nextSeed(int z) {
        return z * 1103515245 + 12345;
    }

    private static int draw(int z, int below) {
        return below < 1 ? 0 : (z & 0x7fffffff) / 65536 % below;
    }

    /** The people, the law they live by, and the day it is. */
    private static final class Village {
        private static final int KEEPER = 0;
        private static final int GIVER = 1;
        private static final int HALF = 2;
        private static final int GROW = 3;
        private static final int ROUND = 4;
        private static final int SAVE = 5;
        private static final int SAINT = 6;
        private static final int THIEF = 7;

        private static final int ONCE = 0;
        private static final int HALVED = 1;
        private static final int TWICE = 2;
        private static final int DAYS = 3;
        private static final int BEST = 4;
        private static final int DEAR = 5;

        private static final int LAW = 0;
        private static final int SPAN = 1;
        private static final int BACK = 2;
        private static final int FREE = 3;

        private final int[] kind = new int[MOST_PEOPLE];
        private final int[] figure = new int[MOST_PEOPLE];
        private final int[] to = new int[MOST_PEOPLE];
        private final int[] has = new int[MOST_PEOPLE];
        private final int[] finds = new int[MOST_PEOPLE];
        private final int[] setting = {ONCE, 3, 0, 1};
        private final Gifts gifts = new Gifts();
        private int people;
        private int today;

        private void become(Village other) {
            System.arraycopy(other.kind, 0, kind, 0, MOST_PEOPLE);
            System.arraycopy(other.figure, 0, figure, 0, MOST_PEOPLE);
            System.arraycopy(other.to, 0, to, 0, MOST_PEOPLE);
            System.arraycopy(other.has, 0, has, 0, MOST_PEOPLE);
            System.arraycopy(other.finds, 0, finds, 0, MOST_PEOPLE);
            System.arraycopy(other.setting, 0, setting, 0, setting.length);
            gifts.become(other.gifts);
            people = other.people;
            today = other.today;
        }

        private boolean exists(int person) {
            return person >= 0 && person < people;
        }

        private boolean welcome(int newKind, int newFigure, int newTo, int newHas, int newFinds) {
            boolean known = newTo == TAKERS || newTo <= people;
            if (today > 0 || people >= MOST_PEOPLE || newKind > THIEF || !known) {
                return false;
            }
            kind[people] = newKind;
            figure[people] = newFigure;
            to[people] = newTo;
            has[people] = newHas;
            finds[people] = newFinds;
            people++;
            return true;
        }

        private boolean takeLaw(int law, int span, int back) {
            if (law > LAST_LAW || outside(span, SETTING_LEAST[SPAN], SETTING_MOST[SPAN]) != FINE || back > LAST_BACK) {
                return false;
            }
            setting[LAW] = law;
            setting[SPAN] = span;
            changeSetting(BACK, back);
            return true;
        }

        /** BACK tells what of the past counts, so past days are counted anew by it. */
        private int changeSetting(int what, int v) {
            int was = setting[what];
            setting[what] = v;
            if (what == BACK && was != v) {
                gifts.countPastDays(v);
            }
            return was;
        }

        private int sumOfHas() {
            int sum = 0;
            for (int p = 0; p < people; p++) {
                sum += has[p];
            }
            return sum;
        }

        private int sumOfLying() {
            int sum = 0;
            for (int p = 0; p < people; p++) {
                sum += gifts.gotToday(p);
            }
            return sum;
        }

        private int sumOfGiven() {
            int sum = 0;
            for (int p = 0; p < people; p++) {
                sum += gifts.givenToday(p);
            }
            return sum;
        }

        /** Who has most of those who have more than so much. */
        private int richestAbove(int much) {
            int richest = NONE;
            int richestHas = much;
            for (int p = 0; p < people; p++) {
                if (has[p] > richestHas) {
                    richest = p;
                    richestHas = has[p];
                }
            }
            return richest;
        }

        private int leave(int person) {
            if (kind[person] == THIEF) {
                return MOST_UNITS;
            }
            int counted = gifts.countedYesterday(person);
            switch (setting[LAW]) {
                case HALVED: return bounded((counted + 1) / 2);
                case TWICE: return bounded(counted * 2);
                case DAYS: return bounded(gifts.countedTogether(setting[SPAN], person));
                case BEST: return bounded(gifts.countedAtBest(setting[SPAN], person));
                case DEAR: return bounded((counted + 1) / 2 + figure[person]);
                case ONCE: default: return bounded(counted);
            }
        }

        private int bounded(int leave) {
            return Math.max(setting[FREE], Math.min(MOST_UNITS, leave));
        }

        private int amountByKind(int person) {
            switch (kind[person]) {
                case GIVER: case ROUND: case SAINT: return has[person];
                case HALF: return has[person] / 2;
                case GROW: return whatGrew(person);
                case SAVE: return today < 10 * figure[person] ? whatGrew(person) : 0;
                case THIEF: return divides(figure[person] + 1, today) ? has[person] / 2 : 0;
                case KEEPER: default: return 0;
            }
        }

        private int whatGrew(int person) {
            return Math.min(has[person], finds[person] + gifts.gotYesterday(person));
        }

        private static boolean divides(int divisor, int number) {
            return divisor > 0 && number % divisor == 0;
        }

        private int takerByKind(int person) {
            if (kind[person] == ROUND) {
                return nextOne(person);
            }
            return kind[person] == SAINT && today % 2 == 1 ? TAKERS : to[person];
        }

        /** Nobody gives to itself, however much its kind would give. */
        private int giftByKind(int person) {
            return takerByKind(person) == person ? 0 : amountByKind(person);
        }

        private int nextOne(int person) {
            return person + 1 < people ? person + 1 : 0;
        }

        private int giftRefusal(int who, int whom, int n) {
            if (!exists(who) || whom == who || whom != TAKERS && !exists(whom)) {
                return NOBODY;
            }
            return outside(n, 1, has[who]);
        }

        private void hand(int who, int whom, int n) {
            has[who] -= n;
            gifts.add(who, whom, n);
        }

        private void handIfAny(int who, int whom, int n) {
            if (whom != who && n > 0) {
                hand(who, whom, n);
            }
        }

        private void passDays(int n) {
            for (int i = 0; i < n; i++) {
                passDay();
            }
        }

        private int passDay() {
            for (int p = 0; p < people; p++) {
                handIfAny(p, takerByKind(p), amountByKind(p));
            }
            return endDay();
        }

        /** A day on which one gives so much as it chose to, and the others by their kinds. */
        private void passDayOfOne(int one, int n) {
            for (int p = 0; p < people; p++) {
                if (p == one) {
                    handIfAny(p, to[p] == p ? TAKERS : to[p], n);
                } else {
                    handIfAny(p, takerByKind(p), amountByKind(p));
                }
            }
            endDay();
        }

        /** The evening: answers how much is lost in it. */
        private int endDay() {
            int lostNow = 0;
            for (int p = 0; p < people; p++) {
                int lying = gifts.gotToday(p) + finds[p];
                int home = Math.min(has[p] + Math.min(lying, leave(p)), MOST_UNITS);
                lostNow += lying - (home - has[p]);
                has[p] = home;
            }
            gifts.countDay(0, setting[BACK]);
            gifts.turnToNextDay();
            today++;
            return lostNow;
        }

        private int whoCannotBegin() {
            int bits = 0;
            for (int p = 0; p < people; p++) {
                boolean getsNothing = finds[p] == 0 || leave(p) == 0;
                if (has[p] == 0 && getsNothing && !isSomebodysTaker(p)) {
                    bits |= 1 << p;
                }
            }
            return bits;
        }

        private boolean isSomebodysTaker(int person) {
            for (int p = 0; p < people; p++) {
                int taker = kind[p] == ROUND ? nextOne(p) : to[p];
                if (p != person && has[p] > 0 && taker == person) {
                    return true;
                }
            }
            return false;
        }

        private void find(int person, int n) {
            if (exists(person)) {
                has[person] = Math.min(MOST_UNITS, has[person] + n);
            }
        }
    }

    /**
     * Who gave how much to whom, by how many days ago it was (0: today), as far as a law can look back.
     * Days before the first one are days without gifts.
     */
    private static final class Gifts {
        /** Today and the 5 days that a SPAN has at most. */
        private static final int DAYS_KEPT = 6;
        /** From the earliest of these, BACK looks at 5 days more. */
        private static final int PAIRS_KEPT = 11;
        private static final int TAKERS_COLUMN = MOST_PEOPLE;
        private static final int COLUMNS = MOST_PEOPLE + 1;
        private static final int PLACES = MOST_PEOPLE * COLUMNS;

        private final int[] amount = new int[DAYS_KEPT * PLACES];
        private final int[] counted = new int[DAYS_KEPT * MOST_PEOPLE];
        /** A bit for each who gave to whom on that day: 6 times who, and whom. */
        private final long[] pairs = new long[PAIRS_KEPT];

        private void become(Gifts other) {
            System.arraycopy(other.amount, 0, amount, 0, amount.length);
            System.arraycopy(other.counted, 0, counted, 0, counted.length);
            System.arraycopy(other.pairs, 0, pairs, 0, pairs.length);
        }

        private void add(int who, int whom, int n) {
            int column = whom == TAKERS ? TAKERS_COLUMN : whom;
            amount[who * COLUMNS + column] += n;
            if (column != TAKERS_COLUMN) {
                pairs[0] |= 1L << who * MOST_PEOPLE + whom;
            }
        }

        private int givenToday(int who) {
            int sum = 0;
            for (int i = 0; i < COLUMNS; i++) {
                sum += amount[who * COLUMNS + i];
            }
            return sum;
        }

        private int gotToday(int whom) {
            return got(0, whom);
        }

        private int gotYesterday(int whom) {
            return got(1, whom);
        }

        private int got(int ago, int whom) {
            int sum = 0;
            for (int who = 0; who < MOST_PEOPLE; who++) {
                sum += amount[ago * PLACES + who * COLUMNS + whom];
            }
            return sum;
        }

        private int countedYesterday(int who) {
            return counted[MOST_PEOPLE + who];
        }

        private int countedTogether(int span, int who) {
            int sum = 0;
            for (int ago = 1; ago <= span && ago < DAYS_KEPT; ago++) {
                sum += counted[ago * MOST_PEOPLE + who];
            }
            return sum;
        }

        private int countedAtBest(int span, int who) {
            int best = 0;
            for (int ago = 1; ago <= span && ago < DAYS_KEPT; ago++) {
                best = Math.max(best, counted[ago * MOST_PEOPLE + who]);
            }
            return best;
        }

        private void countPastDays(int back) {
            for (int ago = 1; ago < DAYS_KEPT; ago++) {
                countDay(ago, back);
            }
        }

        /** Counts are kept, as a law asks for those of the same past day on several evenings. */
        private void countDay(int ago, int back) {
            long gave = 0;
            if (back > 0) {
                for (int i = ago; i <= ago + back && i < PAIRS_KEPT; i++) {
                    gave |= pairs[i];
                }
            }
            for (int who = 0; who < MOST_PEOPLE; who++) {
                counted[ago * MOST_PEOPLE + who] = countOf(ago, who, gave);
            }
        }

        private int countOf(int ago, int who, long gave) {
            int first = ago * PLACES + who * COLUMNS;
            int sum = amount[first + TAKERS_COLUMN];
            for (int whom = 0; whom < MOST_PEOPLE; whom++) {
                if ((gave & 1L << whom * MOST_PEOPLE + who) == 0) {
                    sum += amount[first + whom];
                }
            }
            return sum;
        }

        private void turnToNextDay() {
            System.arraycopy(amount, 0, amount, PLACES, amount.length - PLACES);
            System.arraycopy(counted, 0, counted, MOST_PEOPLE, counted.length - MOST_PEOPLE);
            System.arraycopy(pairs, 0, pairs, 1, pairs.length - 1);
            for (int i = 0; i < PLACES; i++) {
                amount[i] = 0;
            }
            pairs[0] = 0;
        }
    }

    /** All rows of choices that one has on the next days: the best of them, and the cheapest that is enough. */
    private static final class Search {
        private final Village[] level = new Village[MOST_CHOICES + 1];
        private final int[] chosen = new int[MOST_CHOICES];
        private final int[] bestRow = new int[MOST_CHOICES];
        private int one;
        private int days;
        private int much;
        private int best;
        private int leastGiven;

        private Search() {
            for (int i = 0; i < level.length; i++) {
                level[i] = new Village();
            }
        }

        private void run(Village start, int who, int howLong, int enough) {
            one = who;
            days = Math.min(howLong, MOST_CHOICES);
            much = enough;
            best = NONE;
            leastGiven = NONE;
            level[0].become(start);
            explore(this, 0, 0);
        }

        private static void explore(Search s, int depth, int given) {
            if (depth >= s.days) {
                s.look(given);
                return;
            }
            Village morning = s.level[depth];
            int has = morning.has[s.one];
            for (int halves = 0; halves <= 2; halves++) {
                int n = has * halves / 2;
                // Another choice that gives nothing can only repeat what the first one led to.
                if (halves > 0 && n == 0) {
                    continue;
                }
                s.chosen[depth] = halves;
                Village next = s.level[depth + 1];
                next.become(morning);
                next.passDayOfOne(s.one, n);
                explore(s, depth + 1, given + n);
            }
        }

        private void look(int given) {
            int has = level[days].has[one];
            if (has > best) {
                best = has;
                System.arraycopy(chosen, 0, bestRow, 0, days);
            }
            if (has >= much && (leastGiven == NONE || given < leastGiven)) {
                leastGiven = given;
            }
        }
    }

    /** The letters of a land that is being told. */
    private static final class Letters {
        private static final int MOST = 64;

        private final int[] letter = new int[MOST];
        private int size;
        private int place;

        private boolean isFull() {
            return size >= MOST;
        }

        private int add(int sign) {
            if (size < MOST) {
                letter[size] = sign;
                size++;
            }
            return size;
        }

        private void forget() {
            size = 0;
        }

        private boolean isAt(int sign, int at) {
            return at >= 0 && at < size && letter[at] == sign;
        }

        private boolean isDigitAt(int at) {
            return at >= 0 && at < size && letter[at] >= '0' && letter[at] <= '9';
        }

        private int digit(int at) {
            return isDigitAt(at) ? letter[at] - '0' : 0;
        }

        private int number(int at) {
            int value = 0;
            for (int i = at; i < size && isDigitAt(i); i++) {
                value = value * 10 + digit(i);
            }
            return value;
        }

        private int next(int sign, int at) {
            int i = at;
            while (i < size && !isAt(sign, i)) {
                i++;
            }
            return i;
        }

        /** The place of the first letter with which no land can go on, or -1. */
        private int firstUnfit() {
            place = 0;
            boolean fits = size > 0;
            for (int i = 0; i < MOST && fits && place < size; i++) {
                fits = passesStatement();
            }
            return fits ? -1 : place;
        }

        private boolean passesStatement() {
            if (passes('l')) {
                return passesDigits(3, 3) && passes(';');
            }
            // KIND, FIGURE, TO and the 1 to 4 digits of HAS stand side by side.
            return passes('p') && passesDigits(4, 7) && passes(',') && passesDigits(1, 2) && passes(';');
        }

        private boolean passes(int sign) {
            if (!isAt(sign, place)) {
                return false;
            }
            place++;
            return true;
        }

        private boolean passesDigits(int least, int most) {
            int passed = 0;
            while (passed < most && isDigitAt(place)) {
                place++;
                passed++;
            }
            return passed >= least;
        }
    }
}
