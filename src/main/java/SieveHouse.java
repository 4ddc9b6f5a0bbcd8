/** Sieves of unlike laws, told by a text; ../shared/DOC.md says what each call answers. */
public final class SieveHouse {
    public static final int NONE = -1;

    private static final int LUCKY = 0;
    private static final int FLAVIUS = 1;
    private static final int LUDIC = 2;
    private static final int PRIME = 3;
    private static final int FIXED = 4;
    private static final int TOLD = 5;

    private static final int MOST_SIEVES = 4;
    private static final int MOST_LISTS = 3;
    private static final int MOST_LISTED = 10;
    private static final int MOST_NUMBERS = 600;
    private static final int MOST_GAPS = 12;
    private static final int MOST_BYTES = 600;
    private static final int MOST_ACTS = 8;
    private static final int GREATEST_FROM = 999;
    private static final int GREATEST_BY = 99;
    private static final int GREATEST_FIXED_GAP = 99;
    private static final int MOST_FIXED_ROUNDS = 60;
    private static final int GREATEST_TOLD_GAP = 999;
    private static final int GREATEST_DIVISOR = 999;
    private static final int GREATEST_MISS_STEP = 99;
    /** The greatest number a row can hold has five digits; behind each stands one sign. */
    private static final int MOST_OUT = 6 * MOST_NUMBERS;
    /** Cells enough for every rest by the greatest divisor, and for two middles a number. */
    private static final int MOST_SCRATCH = 2 * MOST_NUMBERS;

    private static final int CANNOT_BE = 1;
    private static final int NO_SUCH = 2;
    private static final int TOO_MANY = 3;
    private static final int ALREADY = 4;
    private static final int NOT_THERE = 5;
    private static final int FAULTY = 9;

    private final Reader reader;
    private final Shelf shelf;
    private final Printer printer;
    /** For rounds that are only thought of. */
    private final Sieve trial;
    /** Made once, so that no call needs room of its own. */
    private final int[] scratch;
    private int status;

    public SieveHouse() {
        reader = new Reader();
        shelf = new Shelf();
        printer = new Printer();
        trial = new Sieve();
        scratch = new int[MOST_SCRATCH];
        status = 0;
    }

    public int status() {
        return status;
    }

    public int feed(int a, int b, int c, int d, int e) {
        return reader.append(a, b, c, d, e);
    }

    public int load(int n) {
        if (n < 0 || n > reader.fed) return fail(CANNOT_BE);
        if (!reader.readText(n)) return fail(FAULTY);
        shelf.takeOver(reader);
        return succeed(shelf.count);
    }

    public int fault(int what) {
        if (what == 0) return reader.faultKind;
        return what == 1 ? reader.faultPlace : NONE;
    }

    public int many(int what) {
        if (!within(what, 0, 2)) return fail(CANNOT_BE);
        if (what == 0) return succeed(shelf.count);
        return succeed(what == 1 ? shelf.acts : shelf.listCount);
    }

    public int sieve(int s, int what) {
        if (!within(what, 0, 7)) return fail(CANNOT_BE);
        Sieve sieve = shelf.sieveAt(s);
        if (sieve == null) return fail(NO_SUCH);
        return succeed(sieve.property(what));
    }

    // ---- rounds

    public int round(int s) {
        Sieve sieve = shelf.sieveAt(s);
        if (sieve == null) return fail(NO_SUCH);
        int gap = sieve.nextGap();
        if (gap == NONE) return fail(NOT_THERE);
        shelf.keepAct(Shelf.CHANGED, s);
        return succeed(sieve.sweep(gap));
    }

    public int all(int s) {
        Sieve sieve = shelf.sieveAt(s);
        if (sieve == null) return fail(NO_SUCH);
        if (sieve.nextGap() == NONE) return fail(NOT_THERE);
        shelf.keepAct(Shelf.CHANGED, s);
        return succeed(sieve.sweepAtMost(MOST_NUMBERS));
    }

    public int told(int s, int r, int what) {
        if (r < 1 || !within(what, 0, 3)) return fail(CANNOT_BE);
        Sieve sieve = shelf.sieveAt(s);
        if (sieve == null) return fail(NO_SUCH);
        return answer(Past.ofRound(sieve, r, what));
    }

    public int strike(int s, int n) {
        Sieve sieve = shelf.sieveAt(s);
        if (sieve == null) return fail(NO_SUCH);
        int place = sieve.placeOf(n);
        if (place == NONE || sieve.size < 2) return fail(NOT_THERE);
        shelf.keepAct(Shelf.CHANGED, s);
        sieve.takeOut(n);
        return succeed(place);
    }

    public int longer(int s, int many) {
        if (!within(many, 2, MOST_NUMBERS)) return fail(CANNOT_BE);
        Sieve sieve = shelf.sieveAt(s);
        if (sieve == null) return fail(NO_SUCH);
        if (sieve.many == many) return fail(ALREADY);
        shelf.keepAct(Shelf.CHANGED, s);
        sieve.resize(many);
        return succeed(sieve.size);
    }

    public int make(int kind, int from, int by, int many) {
        if (!within(kind, LUCKY, PRIME) || !within(from, 0, GREATEST_FROM)) return fail(CANNOT_BE);
        if (!within(by, 1, GREATEST_BY) || !within(many, 2, MOST_NUMBERS)) return fail(CANNOT_BE);
        Sieve sieve = shelf.add();
        if (sieve == null) return fail(TOO_MANY);
        sieve.set(kind, from, by, many);
        return succeed(shelf.count - 1);
    }

    public int drop(int s) {
        if (shelf.sieveAt(s) == null) return fail(NO_SUCH);
        shelf.remove(s);
        return succeed(shelf.count);
    }

    public int undo() {
        if (shelf.acts == 0) return fail(NOT_THERE);
        shelf.goBack();
        return succeed(shelf.acts);
    }

    // ---- places

    public int number(int s, int p) {
        if (p < 1) return fail(CANNOT_BE);
        Sieve sieve = shelf.sieveAt(s);
        if (sieve == null) return fail(NO_SUCH);
        return answer(sieve.numberAt(p));
    }

    public int rank(int s, int n) {
        Sieve sieve = shelf.sieveAt(s);
        if (sieve == null) return fail(NO_SUCH);
        return answer(sieve.placeOf(n));
    }

    public int fate(int s, int n, int what) {
        if (!within(what, 0, 1)) return fail(CANNOT_BE);
        Sieve sieve = shelf.sieveAt(s);
        if (sieve == null) return fail(NO_SUCH);
        return answer(Past.ofStruck(sieve, n, what));
    }

    public int back(int s, int r, int p) {
        if (r < 1 || p < 1) return fail(CANNOT_BE);
        Sieve sieve = shelf.sieveAt(s);
        if (sieve == null) return fail(NO_SUCH);
        return answer(Past.ledBack(sieve, r, r, p));
    }

    public int ahead(int s, int r, int p) {
        if (r < 1 || p < 1) return fail(CANNOT_BE);
        Sieve sieve = shelf.sieveAt(s);
        if (sieve == null) return fail(NO_SUCH);
        return answer(Past.ledOn(sieve, r, p));
    }

    public int would(int s, int p) {
        if (p < 1) return fail(CANNOT_BE);
        Sieve sieve = shelf.sieveAt(s);
        if (sieve == null) return fail(NO_SUCH);
        finishTrial(sieve);
        return answer(trial.numberAt(p));
    }

    public int till(int s, int n) {
        if (!within(n, 1, MOST_NUMBERS)) return fail(CANNOT_BE);
        Sieve sieve = shelf.sieveAt(s);
        if (sieve == null) return fail(NO_SUCH);
        trial.takeOver(sieve);
        return answer(trial.sweepTill(n));
    }

    public int origin(int s, int p) {
        if (p < 1) return fail(CANNOT_BE);
        Sieve sieve = shelf.sieveAt(s);
        if (sieve == null) return fail(NO_SUCH);
        if (Past.isTouchedBetweenRounds(sieve)) return fail(NOT_THERE);
        return answer(Past.ledBack(sieve, 1, sieve.rounds, p));
    }

    public int gone(int s, int k) {
        if (k < NONE) return fail(CANNOT_BE);
        Sieve sieve = shelf.sieveAt(s);
        if (sieve == null) return fail(NO_SUCH);
        if (k == NONE) return succeed(sieve.many - sieve.size);
        return answer(Past.struckNumber(sieve, k));
    }

    public int upTo(int s, int n) {
        Sieve sieve = shelf.sieveAt(s);
        if (sieve == null) return fail(NO_SUCH);
        return succeed(sieve.countUpTo(n));
    }

    // ---- gaps, pairs

    public int gap(int s, int p) {
        if (p < 1) return fail(CANNOT_BE);
        Sieve sieve = shelf.sieveAt(s);
        if (sieve == null) return fail(NO_SUCH);
        return answer(sieve.gapAt(p));
    }

    public int gaps(int s, int what) {
        if (!within(what, 0, 3)) return fail(CANNOT_BE);
        Sieve sieve = shelf.sieveAt(s);
        if (sieve == null) return fail(NO_SUCH);
        if (sieve.size < 2) return fail(NOT_THERE);
        if (what == 3) return succeed(Spacing.unlikeGaps(sieve, scratch));
        int place = Spacing.placeOfGreatest(sieve);
        if (what == 1) return succeed(place);
        int greatest = sieve.gapAt(place);
        return succeed(what == 0 ? greatest : Spacing.countGaps(sieve, greatest));
    }

    public int gapsOf(int s, int d) {
        Sieve sieve = shelf.sieveAt(s);
        if (sieve == null) return fail(NO_SUCH);
        return succeed(Spacing.countGaps(sieve, d));
    }

    public int record(int s, int k) {
        if (k < NONE) return fail(CANNOT_BE);
        Sieve sieve = shelf.sieveAt(s);
        if (sieve == null) return fail(NO_SUCH);
        return answer(Spacing.recordPlace(sieve, k));
    }

    public int pairs(int s, int d, int what) {
        if (d < 1 || !within(what, 0, 2)) return fail(CANNOT_BE);
        Sieve sieve = shelf.sieveAt(s);
        if (sieve == null) return fail(NO_SUCH);
        return answer(Additive.pairsBy(sieve, d, what));
    }

    public int triples(int s, int d, int e) {
        if (d < 1 || e <= d) return fail(CANNOT_BE);
        Sieve sieve = shelf.sieveAt(s);
        if (sieve == null) return fail(NO_SUCH);
        return succeed(Additive.triplesBy(sieve, d, e));
    }

    public int sums(int s, int n) {
        Sieve sieve = shelf.sieveAt(s);
        if (sieve == null) return fail(NO_SUCH);
        return succeed(Additive.waysToSum(sieve, n));
    }

    public int misses(int s, int m) {
        if (!within(m, 1, GREATEST_MISS_STEP)) return fail(CANNOT_BE);
        Sieve sieve = shelf.sieveAt(s);
        if (sieve == null) return fail(NO_SUCH);
        return answer(Additive.firstNoSum(sieve, m));
    }

    public int run(int s, int what) {
        if (!within(what, 0, 1)) return fail(CANNOT_BE);
        Sieve sieve = shelf.sieveAt(s);
        if (sieve == null) return fail(NO_SUCH);
        int place = Spacing.longestRunPlace(sieve);
        return succeed(what == 1 ? place : Spacing.runEnd(sieve, place) - place + 1);
    }

    public int progression(int s, int d, int what) {
        if (d < 1 || !within(what, 0, 1)) return fail(CANNOT_BE);
        Sieve sieve = shelf.sieveAt(s);
        if (sieve == null) return fail(NO_SUCH);
        int first = Additive.longestProgressionStart(sieve, d);
        return succeed(what == 1 ? first : Additive.progressionLength(sieve, first, d));
    }

    public int rests(int s, int m, int c) {
        if (!within(m, 1, GREATEST_DIVISOR) || !within(c, NONE, m - 1)) return fail(CANNOT_BE);
        Sieve sieve = shelf.sieveAt(s);
        if (sieve == null) return fail(NO_SUCH);
        return succeed(Additive.restsBy(sieve, m, c, scratch));
    }

    public int ring(int s, int g, int k) {
        if (g < 1 || k < NONE) return fail(CANNOT_BE);
        Sieve sieve = shelf.sieveAt(s);
        if (sieve == null) return fail(NO_SUCH);
        int turn = k == NONE ? sieve.size - 1 : k;
        return answer(Spacing.struckFromRing(sieve, g, turn));
    }

    public int chain(int s, int n, int what) {
        if (!within(what, 0, 2)) return fail(CANNOT_BE);
        Sieve sieve = shelf.sieveAt(s);
        if (sieve == null) return fail(NO_SUCH);
        return answer(Spacing.chainFrom(sieve, n, what, scratch));
    }

    public int spread(int s, int w, int what) {
        if (w < 2 || !within(what, 0, 1)) return fail(CANNOT_BE);
        Sieve sieve = shelf.sieveAt(s);
        if (sieve == null) return fail(NO_SUCH);
        int place = Spacing.closestPlace(sieve, w);
        if (place == NONE) return fail(NOT_THERE);
        return succeed(what == 1 ? place : Spacing.width(sieve, place, w));
    }

    public int sketch(int s, int w, int k) {
        if (!within(w, 1, MOST_NUMBERS) || k < NONE) return fail(CANNOT_BE);
        Sieve sieve = shelf.sieveAt(s);
        if (sieve == null) return fail(NO_SUCH);
        int cells = quotient(sieve.many + w - 1, w);
        if (k == NONE) return succeed(cells);
        if (k >= cells) return fail(NOT_THERE);
        return succeed(sieve.countLeft(k * w, k * w + w));
    }

    public int balance(int s, int p) {
        if (p < 1) return fail(CANNOT_BE);
        Sieve sieve = shelf.sieveAt(s);
        if (sieve == null) return fail(NO_SUCH);
        int number = sieve.numberAt(p);
        if (number == NONE) return fail(NOT_THERE);
        return succeed(number - sieve.firstNumber(p - 1));
    }

    public int pattern(int s, int d, int e, int f) {
        if (d < 1 || e < 1 || f < 0) return fail(CANNOT_BE);
        Sieve sieve = shelf.sieveAt(s);
        if (sieve == null) return fail(NO_SUCH);
        return succeed(Spacing.countPattern(sieve, d, e, f));
    }

    public int mirror(int s, int what) {
        if (!within(what, 0, 1)) return fail(CANNOT_BE);
        Sieve sieve = shelf.sieveAt(s);
        if (sieve == null) return fail(NO_SUCH);
        return answer(Spacing.longestMirror(sieve, what, scratch));
    }

    public int half(int s) {
        Sieve sieve = shelf.sieveAt(s);
        if (sieve == null) return fail(NO_SUCH);
        return succeed(sieve.numberAt((sieve.size + 1) / 2));
    }

    public int usual(int s) {
        Sieve sieve = shelf.sieveAt(s);
        if (sieve == null) return fail(NO_SUCH);
        return answer(Spacing.commonestGap(sieve, scratch));
    }

    // ---- sieves compared

    public int both(int s, int other, int what) {
        if (!within(what, 0, 3)) return fail(CANNOT_BE);
        Sieve one = shelf.sieveAt(s);
        Sieve two = shelf.sieveAt(other);
        if (one == null || two == null) return fail(NO_SUCH);
        int common = Duel.countCommon(one, two);
        if (what == 0) return succeed(common);
        if (what == 1) return succeed(one.size - common);
        if (what == 2) return succeed(two.size - common);
        return answer(Duel.leastInOneAlone(one, two));
    }

    public int lead(int s, int other, int what) {
        if (!within(what, 0, 4)) return fail(CANNOT_BE);
        Sieve one = shelf.sieveAt(s);
        Sieve two = shelf.sieveAt(other);
        if (one == null || two == null) return fail(NO_SUCH);
        return succeed(Duel.leading(one, two, what));
    }

    public int alike(int s, int other) {
        Sieve one = shelf.sieveAt(s);
        Sieve two = shelf.sieveAt(other);
        if (one == null || two == null) return fail(NO_SUCH);
        return succeed(Duel.likeRounds(one, two));
    }

    public int through(int s, int other, int k) {
        if (k < NONE) return fail(CANNOT_BE);
        Sieve one = shelf.sieveAt(s);
        Sieve two = shelf.sieveAt(other);
        if (one == null || two == null) return fail(NO_SUCH);
        return answer(Duel.pickedByPlace(one, two, k));
    }

    // ---- lists

    public int list(int l, int i) {
        if (i < NONE) return fail(CANNOT_BE);
        Listed listed = shelf.listAt(l);
        if (listed == null) return fail(NO_SUCH);
        return i == NONE ? succeed(listed.size) : answer(listed.numberAt(i));
    }

    public int fits(int s, int l, int what) {
        if (!within(what, 0, 2)) return fail(CANNOT_BE);
        Sieve sieve = shelf.sieveAt(s);
        Listed listed = shelf.listAt(l);
        if (sieve == null || listed == null) return fail(NO_SUCH);
        if (what == 0) return succeed(listed.countIn(sieve));
        if (what == 1) return answer(listed.firstNotIn(sieve));
        return succeed(listed.standsTogetherIn(sieve) ? 1 : 0);
    }

    public int guess(int l) {
        Listed listed = shelf.listAt(l);
        if (listed == null) return fail(NO_SUCH);
        for (int s = 0; s < shelf.count; s++) {
            Sieve sieve = shelf.sieveAt(s);
            if (sieve == null) continue;
            finishTrial(sieve);
            if (listed.standsTogetherIn(trial)) return succeed(s);
        }
        return fail(NOT_THERE);
    }

    public int meets(int s, int other, int n, int what) {
        if (!within(what, 0, 1)) return fail(CANNOT_BE);
        Sieve one = shelf.sieveAt(s);
        Sieve two = shelf.sieveAt(other);
        if (one == null || two == null) return fail(NO_SUCH);
        return succeed(Duel.countMeetings(one, two, n, what == 1));
    }

    public int apart(int s, int other, int what) {
        if (!within(what, 0, 1)) return fail(CANNOT_BE);
        Sieve one = shelf.sieveAt(s);
        Sieve two = shelf.sieveAt(other);
        if (one == null || two == null) return fail(NO_SUCH);
        if (what == 1) return succeed(Duel.countLikePlaces(one, two));
        return answer(Duel.firstUnlikePlace(one, two));
    }

    public int print(int s) {
        Sieve sieve = shelf.sieveAt(s);
        if (sieve == null) return fail(NO_SUCH);
        printer.write(sieve);
        return succeed(printer.length);
    }

    public int out(int i) {
        if (i < 0) return fail(CANNOT_BE);
        return i < printer.length ? answer(at(printer.bytes, i)) : fail(NOT_THERE);
    }

    // ---- answers

    private int fail(int why) {
        status = why;
        return NONE;
    }

    private int succeed(int value) {
        status = 0;
        return value;
    }

    /** For values that are never below 0: NONE tells that there is none. */
    private int answer(int value) {
        return value == NONE ? fail(NOT_THERE) : succeed(value);
    }

    private void finishTrial(Sieve sieve) {
        trial.takeOver(sieve);
        trial.sweepAtMost(MOST_NUMBERS);
    }

    // ---- guarded steps: no index and no divisor is used before it is looked at

    private static boolean within(int n, int least, int most) {
        return n >= least && n <= most;
    }

    private static int at(int[] cells, int i) {
        return i >= 0 && i < cells.length ? cells[i] : NONE;
    }

    private static void put(int[] cells, int i, int value) {
        if (i >= 0 && i < cells.length) cells[i] = value;
    }

    private static void copyCells(int[] source, int[] target) {
        for (int i = 0; i < source.length && i < target.length; i++) target[i] = source[i];
    }

    private static void clearCells(int[] cells) {
        for (int i = 0; i < cells.length; i++) cells[i] = 0;
    }

    private static int quotient(int n, int divisor) {
        return divisor > 0 ? n / divisor : NONE;
    }

    private static int remainder(int n, int divisor) {
        return divisor > 0 ? n % divisor : NONE;
    }

    /** A row, its law, and when each of its first numbers was struck. */
    private static final class Sieve {
        /** What struckAt tells of a number that is in the row yet; above all events. */
        static final int HERE = 2147483647;

        int kind;
        int from;
        int by;
        int many;
        /** How many rounds a fixed or a told sieve has at all. */
        int limit;
        /** The gaps of a told sieve; a fixed one has its only gap at the head. */
        final int[] gapsTold = new int[MOST_GAPS];
        int rounds;
        /** Rounds done and numbers struck by hand, in the order in which they came. */
        int events;
        int hands;
        /** For each of the first numbers the event that struck it, or HERE. */
        final int[] struckAt = new int[MOST_NUMBERS];
        final int[] gapOfRound = new int[MOST_NUMBERS + 1];
        final int[] eventOfRound = new int[MOST_NUMBERS + 1];
        final int[] row = new int[MOST_NUMBERS];
        int size;

        void set(int newKind, int newFrom, int newBy, int newMany) {
            kind = newKind;
            from = newFrom;
            by = newBy;
            many = newMany;
            limit = 0;
            begin();
        }

        void begin() {
            rounds = 0;
            events = 0;
            hands = 0;
            for (int i = 0; i < struckAt.length; i++) struckAt[i] = HERE;
            for (int i = 0; i < many; i++) put(row, i, firstNumber(i));
            size = many;
        }

        void takeOver(Sieve other) {
            kind = other.kind;
            from = other.from;
            by = other.by;
            many = other.many;
            limit = other.limit;
            rounds = other.rounds;
            events = other.events;
            hands = other.hands;
            size = other.size;
            copyCells(other.gapsTold, gapsTold);
            copyCells(other.struckAt, struckAt);
            copyCells(other.gapOfRound, gapOfRound);
            copyCells(other.eventOfRound, eventOfRound);
            copyCells(other.row, row);
        }

        int property(int what) {
            switch (what) {
                case 0: return kind;
                case 1: return from;
                case 2: return by;
                case 3: return many;
                case 4: return size;
                case 5: return rounds;
                case 6: return nextGap() == NONE ? 1 : 0;
                default: return hands;
            }
        }

        int firstNumber(int index) {
            return from + by * index;
        }

        boolean isHere(int index) {
            return at(struckAt, index) == HERE;
        }

        void closeUp() {
            size = 0;
            for (int i = 0; i < many; i++) {
                if (!isHere(i)) continue;
                put(row, size, firstNumber(i));
                size++;
            }
        }

        int numberAt(int place) {
            return within(place, 1, size) ? at(row, place - 1) : NONE;
        }

        int gapAt(int place) {
            return within(place, 1, size - 1) ? numberAt(place + 1) - numberAt(place) : NONE;
        }

        /** Which of the first numbers n is, struck or not; long, as sums may go beyond int. */
        int indexOf(long n) {
            if (by < 1 || n < from) return NONE;
            long steps = (n - from) / by;
            if (steps >= many || (n - from) % by != 0) return NONE;
            return (int) steps;
        }

        boolean has(long n) {
            return isHere(indexOf(n));
        }

        int placeOf(int n) {
            return has(n) ? countUpTo(n) : NONE;
        }

        int countUpTo(int n) {
            int count = 0;
            while (count < size && at(row, count) <= n) count++;
            return count;
        }

        /** How many of the first numbers from one index up to another are in the row yet. */
        int countLeft(int index, int end) {
            int count = 0;
            for (int i = index; i < end && i < many; i++) {
                if (isHere(i)) count++;
            }
            return count;
        }

        /** The gap of the next round; NONE if the sieve is done. */
        int nextGap() {
            int gap = gapByLaw();
            if (gap < 2) return NONE;
            return kind == FIXED || kind == TOLD || strikesAny(gap) ? gap : NONE;
        }

        int gapByLaw() {
            switch (kind) {
                case FLAVIUS: return rounds + 2;
                case FIXED: return rounds < limit ? at(gapsTold, 0) : NONE;
                case TOLD: return rounds < limit ? at(gapsTold, rounds) : NONE;
                default: return numberAt(rounds + 2);
            }
        }

        boolean strikesAny(int gap) {
            for (int place = 1; place <= size; place++) {
                if (strikesPlace(place, numberAt(place), gap)) return true;
            }
            return false;
        }

        boolean strikesPlace(int place, int number, int gap) {
            int head = rounds + 2;
            if (kind == LUDIC) return place > head && remainder(place - head, gap) == 0;
            if (kind == PRIME) return place > head && remainder(number, gap) == 0;
            return remainder(place, gap) == 0;
        }

        /** Does the next round, whose gap is told: how many it struck. */
        int sweep(int gap) {
            events++;
            int left = 0;
            for (int place = 1; place <= size; place++) {
                int number = numberAt(place);
                if (strikesPlace(place, number, gap)) {
                    put(struckAt, indexOf(number), events);
                } else {
                    put(row, left, number);
                    left++;
                }
            }
            rounds++;
            put(gapOfRound, rounds, gap);
            put(eventOfRound, rounds, events);
            int struck = size - left;
            size = left;
            return struck;
        }

        /** Does rounds till the sieve is done or has had as many: how many it did. */
        int sweepAtMost(int most) {
            for (int did = 0; did < most; did++) {
                int gap = nextGap();
                if (gap == NONE) return did;
                sweep(gap);
            }
            return most;
        }

        /** Does rounds till at most so many are left: how many it did, NONE if it ended ahead of that. */
        int sweepTill(int left) {
            for (int did = 0; did <= MOST_NUMBERS; did++) {
                if (size <= left) return did;
                int gap = nextGap();
                if (gap == NONE) return NONE;
                sweep(gap);
            }
            return NONE;
        }

        void takeOut(int n) {
            events++;
            hands++;
            put(struckAt, indexOf(n), events);
            closeUp();
        }

        void resize(int newMany) {
            int done = rounds;
            many = newMany;
            begin();
            sweepAtMost(done);
        }
    }

    /** What a sieve's rounds did: the row ahead of an event is all that it or a later one struck, or none. */
    private static final class Past {
        static int ofRound(Sieve sieve, int r, int what) {
            if (!within(r, 1, sieve.rounds)) return NONE;
            int event = at(sieve.eventOfRound, r);
            switch (what) {
                case 0: return at(sieve.gapOfRound, r);
                case 1: return countFrom(sieve, event) - countFrom(sieve, event + 1);
                case 2: return firstStruckBy(sieve, event);
                default: return countFrom(sieve, event + 1);
            }
        }

        static int ofStruck(Sieve sieve, int n, int what) {
            int index = sieve.indexOf(n);
            if (index == NONE || sieve.isHere(index)) return NONE;
            int event = at(sieve.struckAt, index);
            return what == 0 ? roundOfEvent(sieve, event) : placeAhead(sieve, index, event);
        }

        /** A place behind round `last`, led back to its place ahead of round `first`. */
        static int ledBack(Sieve sieve, int first, int last, int place) {
            if (first > last || !within(last, 1, sieve.rounds)) return NONE;
            int index = indexAhead(sieve, place, at(sieve.eventOfRound, last) + 1);
            if (index == NONE) return NONE;
            return placeAhead(sieve, index, at(sieve.eventOfRound, first));
        }

        static int ledOn(Sieve sieve, int r, int place) {
            if (!within(r, 1, sieve.rounds)) return NONE;
            int event = at(sieve.eventOfRound, r);
            int index = indexAhead(sieve, place, event);
            if (index == NONE || at(sieve.struckAt, index) == event) return NONE;
            return placeAhead(sieve, index, event + 1);
        }

        /** Rounds next to each other have events next to each other, unless a hand came between. */
        static boolean isTouchedBetweenRounds(Sieve sieve) {
            if (sieve.rounds < 2) return false;
            int first = at(sieve.eventOfRound, 1);
            int last = at(sieve.eventOfRound, sieve.rounds);
            return last - first != sieve.rounds - 1;
        }

        static int struckNumber(Sieve sieve, int k) {
            int passed = 0;
            for (int i = 0; i < sieve.many; i++) {
                if (sieve.isHere(i)) continue;
                if (passed == k) return sieve.firstNumber(i);
                passed++;
            }
            return NONE;
        }

        /** How many numbers were in the row ahead of an event. */
        static int countFrom(Sieve sieve, int event) {
            return placeAhead(sieve, sieve.many - 1, event);
        }

        static int firstStruckBy(Sieve sieve, int event) {
            for (int i = 0; i < sieve.many; i++) {
                if (at(sieve.struckAt, i) == event) return sieve.firstNumber(i);
            }
            return NONE;
        }

        static int roundOfEvent(Sieve sieve, int event) {
            for (int r = 1; r <= sieve.rounds; r++) {
                if (at(sieve.eventOfRound, r) == event) return r;
            }
            return 0;
        }

        /** The place ahead of an event of a number that was there. */
        static int placeAhead(Sieve sieve, int index, int event) {
            int place = 0;
            for (int i = 0; i <= index; i++) {
                if (at(sieve.struckAt, i) >= event) place++;
            }
            return place;
        }

        static int indexAhead(Sieve sieve, int place, int event) {
            int passed = 0;
            for (int i = 0; i < sieve.many; i++) {
                if (at(sieve.struckAt, i) >= event) passed++;
                if (passed == place) return i;
            }
            return NONE;
        }
    }

    /** What the gaps and the places of a row tell. */
    private static final class Spacing {
        static int placeOfGreatest(Sieve sieve) {
            int best = 1;
            for (int place = 2; place < sieve.size; place++) {
                if (sieve.gapAt(place) > sieve.gapAt(best)) best = place;
            }
            return best;
        }

        static int countGaps(Sieve sieve, int d) {
            int count = 0;
            for (int place = 1; place < sieve.size; place++) {
                if (sieve.gapAt(place) == d) count++;
            }
            return count;
        }

        /** Every gap is a multiple of by: how many times by it is tells its cell. */
        static void tallyGaps(Sieve sieve, int[] tally) {
            clearCells(tally);
            for (int place = 1; place < sieve.size; place++) {
                int steps = quotient(sieve.gapAt(place), sieve.by);
                put(tally, steps, at(tally, steps) + 1);
            }
        }

        static int unlikeGaps(Sieve sieve, int[] tally) {
            tallyGaps(sieve, tally);
            int count = 0;
            for (int steps = 1; steps < MOST_NUMBERS; steps++) {
                if (at(tally, steps) > 0) count++;
            }
            return count;
        }

        static int commonestGap(Sieve sieve, int[] tally) {
            if (sieve.size < 2) return NONE;
            tallyGaps(sieve, tally);
            int best = 1;
            for (int steps = 2; steps < MOST_NUMBERS; steps++) {
                if (at(tally, steps) > at(tally, best)) best = steps;
            }
            return best * sieve.by;
        }

        static int recordPlace(Sieve sieve, int k) {
            int greatest = 0;
            int count = 0;
            for (int place = 1; place < sieve.size; place++) {
                int gap = sieve.gapAt(place);
                if (gap <= greatest) continue;
                if (count == k) return place;
                greatest = gap;
                count++;
            }
            return k == NONE ? count : NONE;
        }

        /** The last place of the run that goes on from a place. */
        static int runEnd(Sieve sieve, int place) {
            int end = place;
            while (end < sieve.size && sieve.gapAt(end) == sieve.by) end++;
            return end;
        }

        static int longestRunPlace(Sieve sieve) {
            int best = 1;
            int most = 0;
            int length = 0;
            for (int place = 1; place <= sieve.size; place++) {
                length = sieve.gapAt(place - 1) == sieve.by ? length + 1 : 1;
                if (length > most) {
                    most = length;
                    best = place - length + 1;
                }
            }
            return best;
        }

        /** Led back from the ring that is left by then to the whole one, a struck number at a time: none need be struck. */
        static int struckFromRing(Sieve sieve, int g, int turn) {
            if (turn >= sieve.size) return NONE;
            long position = -1;
            for (int count = sieve.size - turn; count > 0 && count <= sieve.size; count++) {
                position = (position + g) % count;
            }
            return sieve.numberAt((int) position + 1);
        }

        static int chainFrom(Sieve sieve, int n, int what, int[] cameAtPlace) {
            int place = sieve.placeOf(n);
            if (place == NONE) return NONE;
            clearCells(cameAtPlace);
            int last = n;
            int length = 0;
            while (within(place, 1, sieve.size) && at(cameAtPlace, place) == 0 && length < sieve.size) {
                put(cameAtPlace, place, 1);
                last = sieve.numberAt(place);
                length++;
                place = last;
            }
            if (what == 0) return length;
            if (what == 1) return last;
            return within(place, 1, sieve.size) ? 1 : 0;
        }

        static int width(Sieve sieve, int place, int w) {
            return sieve.numberAt(place + w - 1) - sieve.numberAt(place);
        }

        static int closestPlace(Sieve sieve, int w) {
            if (w > sieve.size) return NONE;
            int best = 1;
            for (int place = 2; place <= sieve.size - w + 1; place++) {
                if (width(sieve, place, w) < width(sieve, best, w)) best = place;
            }
            return best;
        }

        static int countPattern(Sieve sieve, int d, int e, int f) {
            int count = 0;
            for (int place = 1; place < sieve.size; place++) {
                if (sieve.gapAt(place) != d || sieve.gapAt(place + 1) != e) continue;
                if (f == 0 || sieve.gapAt(place + 2) == f) count++;
            }
            return count;
        }

        /** A middle is the places of a mirror's first and last gap together: there are some between two gaps, too. */
        static int longestMirror(Sieve sieve, int what, int[] lengths) {
            int most = 0;
            int best = NONE;
            int outer = 0;
            int end = 0;
            for (int middle = 2; middle <= 2 * (sieve.size - 1); middle++) {
                // what lies in a mirror around it is known from that mirror's other half: no gap is looked at anew
                int known = Math.min(at(lengths, 2 * outer - middle), 2 * end - middle + 1);
                int length = mirrorLength(sieve, middle, Math.max(known, (middle + 1) % 2));
                put(lengths, middle, length);
                int last = (middle + length - 1) / 2;
                if (last > end) {
                    end = last;
                    outer = middle;
                }
                if (length > most) {
                    most = length;
                    best = last - length + 1;
                }
            }
            return what == 1 || best == NONE ? best : most;
        }

        /** How far a mirror, known up to a length, goes on both sides. */
        static int mirrorLength(Sieve sieve, int middle, int length) {
            int first = (middle - length + 1) / 2;
            int last = first + length - 1;
            while (first > 1 && last + 1 < sieve.size && sieve.gapAt(first - 1) == sieve.gapAt(last + 1)) {
                first--;
                last++;
            }
            return last - first + 1;
        }
    }

    /** What the numbers of a row are by adding and dividing. */
    private static final class Additive {
        static int pairsBy(Sieve sieve, int d, int what) {
            int count = 0;
            int first = NONE;
            int last = NONE;
            for (int place = 1; place <= sieve.size; place++) {
                int number = sieve.numberAt(place);
                if (!sieve.has((long) number + d)) continue;
                if (first == NONE) first = number;
                last = number;
                count++;
            }
            if (what == 0) return count;
            return what == 1 ? first : last;
        }

        static int triplesBy(Sieve sieve, int d, int e) {
            int count = 0;
            for (int place = 1; place <= sieve.size; place++) {
                long number = sieve.numberAt(place);
                if (sieve.has(number + d) && sieve.has(number + e)) count++;
            }
            return count;
        }

        static int waysToSum(Sieve sieve, int n) {
            int low = 1;
            int high = sieve.size;
            int ways = 0;
            while (low <= high) {
                int sum = sieve.numberAt(low) + sieve.numberAt(high);
                if (sum == n) ways++;
                if (sum <= n) low++;
                else high--;
            }
            return ways;
        }

        static int firstNoSum(Sieve sieve, int m) {
            int end = 2 * sieve.numberAt(sieve.size);
            int step = Math.max(m, 1);
            int middle = 1;
            for (int n = 2 * sieve.numberAt(1); n <= end; n += step) {
                while (middle < sieve.size && 2 * sieve.numberAt(middle + 1) <= n) middle++;
                if (!isSum(sieve, n, middle)) return n;
            }
            return NONE;
        }

        /** Middle is the last place of half of n or less: in a full row two numbers next to it are found at once. */
        static boolean isSum(Sieve sieve, int n, int middle) {
            for (int place = middle; place >= 1; place--) {
                if (sieve.has(n - sieve.numberAt(place))) return true;
            }
            return false;
        }

        static int progressionLength(Sieve sieve, int first, int d) {
            int length = 1;
            long next = (long) first + d;
            while (length < sieve.size && sieve.has(next)) {
                length++;
                next += d;
            }
            return length;
        }

        static int longestProgressionStart(Sieve sieve, int d) {
            int best = sieve.numberAt(1);
            int most = 0;
            for (int place = 1; place <= sieve.size; place++) {
                int number = sieve.numberAt(place);
                // one with a number of the row ahead of it is no longest one's start
                if (sieve.has((long) number - d)) continue;
                int length = progressionLength(sieve, number, d);
                if (length > most) {
                    most = length;
                    best = number;
                }
            }
            return best;
        }

        static int restsBy(Sieve sieve, int m, int c, int[] tally) {
            clearCells(tally);
            int unlike = 0;
            for (int place = 1; place <= sieve.size; place++) {
                int rest = remainder(sieve.numberAt(place), m);
                if (at(tally, rest) == 0) unlike++;
                put(tally, rest, at(tally, rest) + 1);
            }
            return c == NONE ? unlike : at(tally, c);
        }
    }

    /** Two sieves side by side. */
    private static final class Duel {
        static int countCommon(Sieve one, Sieve two) {
            int count = 0;
            for (int place = 1; place <= one.size; place++) {
                if (two.has(one.numberAt(place))) count++;
            }
            return count;
        }

        static int leastNotIn(Sieve one, Sieve two) {
            for (int place = 1; place <= one.size; place++) {
                int number = one.numberAt(place);
                if (!two.has(number)) return number;
            }
            return NONE;
        }

        static int leastInOneAlone(Sieve one, Sieve two) {
            int inOne = leastNotIn(one, two);
            int inTwo = leastNotIn(two, one);
            if (inOne == NONE) return inTwo;
            return inTwo == NONE ? inOne : Math.min(inOne, inTwo);
        }

        static int leading(Sieve one, Sieve two, int what) {
            int seenOfOne = one.countUpTo(0);
            int seenOfTwo = two.countUpTo(0);
            int lead = seenOfOne - seenOfTwo;
            int greatest = lead;
            int greatestAt = 0;
            int least = lead;
            int turns = 0;
            int side = Integer.compare(lead, 0);
            for (int step = 0; step < one.size + two.size; step++) {
                if (seenOfOne >= one.size && seenOfTwo >= two.size) break;
                int n = lesserOf(one.numberAt(seenOfOne + 1), two.numberAt(seenOfTwo + 1));
                if (one.numberAt(seenOfOne + 1) == n) seenOfOne++;
                if (two.numberAt(seenOfTwo + 1) == n) seenOfTwo++;
                lead = seenOfOne - seenOfTwo;
                if (lead > greatest) {
                    greatest = lead;
                    greatestAt = n;
                }
                least = Math.min(least, lead);
                if (lead == 0) continue;
                if (side == -Integer.compare(lead, 0)) turns++;
                side = Integer.compare(lead, 0);
            }
            switch (what) {
                case 0: return greatest;
                case 1: return greatestAt;
                case 2: return least;
                case 3: return turns;
                default: return lead;
            }
        }

        /** Of two numbers either of which may be NONE. */
        static int lesserOf(int one, int two) {
            if (one == NONE) return two;
            return two == NONE ? one : Math.min(one, two);
        }

        static int likeRounds(Sieve one, Sieve two) {
            int r = 0;
            while (r < one.rounds && r < two.rounds
                    && at(one.gapOfRound, r + 1) == at(two.gapOfRound, r + 1)) r++;
            return r;
        }

        static int pickedByPlace(Sieve one, Sieve two, int k) {
            int count = 0;
            for (int place = 1; place <= one.size; place++) {
                if (!two.has(place)) continue;
                if (count == k) return one.numberAt(place);
                count++;
            }
            return k == NONE ? count : NONE;
        }

        static int countMeetings(Sieve one, Sieve two, int n, boolean less) {
            int count = 0;
            for (int place = 1; place <= one.size; place++) {
                long number = one.numberAt(place);
                if (two.has(less ? number - n : n - number)) count++;
            }
            return count;
        }

        static int firstUnlikePlace(Sieve one, Sieve two) {
            for (int place = 1; place <= one.size || place <= two.size; place++) {
                if (one.numberAt(place) != two.numberAt(place)) return place;
            }
            return NONE;
        }

        static int countLikePlaces(Sieve one, Sieve two) {
            int count = 0;
            for (int place = 1; place <= one.size && place <= two.size; place++) {
                if (one.numberAt(place) == two.numberAt(place)) count++;
            }
            return count;
        }
    }

    /** A list of the text. */
    private static final class Listed {
        final int[] numbers = new int[MOST_LISTED];
        int size;

        void takeOver(Listed other) {
            size = other.size;
            copyCells(other.numbers, numbers);
        }

        void append(int n) {
            put(numbers, size, n);
            size++;
        }

        int numberAt(int i) {
            return within(i, 0, size - 1) ? at(numbers, i) : NONE;
        }

        int countIn(Sieve sieve) {
            int count = 0;
            for (int i = 0; i < size; i++) {
                if (sieve.has(numberAt(i))) count++;
            }
            return count;
        }

        int firstNotIn(Sieve sieve) {
            for (int i = 0; i < size; i++) {
                if (!sieve.has(numberAt(i))) return numberAt(i);
            }
            return NONE;
        }

        boolean standsTogetherIn(Sieve sieve) {
            int place = sieve.placeOf(numberAt(0));
            if (place == NONE) return false;
            for (int i = 1; i < size; i++) {
                if (sieve.numberAt(place + i) != numberAt(i)) return false;
            }
            return true;
        }
    }

    /** The sieves and the lists as they are now, and the acts that can go back. */
    private static final class Shelf {
        static final int CHANGED = 0;
        static final int MADE = 1;
        static final int DROPPED = 2;

        /** Those from count on are spare. */
        final Sieve[] sieves = new Sieve[MOST_SIEVES];
        int count;
        final Listed[] lists = new Listed[MOST_LISTS];
        int listCount;
        final int[] actKinds = new int[MOST_ACTS];
        final int[] actNumbers = new int[MOST_ACTS];
        /** A sieve as it was ahead of the act. */
        final Sieve[] actSieves = new Sieve[MOST_ACTS];
        int acts;

        Shelf() {
            for (int i = 0; i < sieves.length; i++) sieves[i] = new Sieve();
            for (int i = 0; i < lists.length; i++) lists[i] = new Listed();
            for (int i = 0; i < actSieves.length; i++) actSieves[i] = new Sieve();
        }

        Sieve sieveAt(int s) {
            return within(s, 0, count - 1) && s < sieves.length ? sieves[s] : null;
        }

        Listed listAt(int l) {
            return within(l, 0, listCount - 1) && l < lists.length ? lists[l] : null;
        }

        void takeOver(Reader reader) {
            acts = 0;
            count = reader.sieveCount;
            listCount = reader.listCount;
            for (int s = 0; s < count; s++) {
                Sieve target = sieveAt(s);
                Sieve source = reader.sieveAt(s);
                if (target != null && source != null) target.takeOver(source);
            }
            for (int l = 0; l < listCount; l++) {
                Listed target = listAt(l);
                Listed source = reader.listAt(l);
                if (target != null && source != null) target.takeOver(source);
            }
        }

        void keepAct(int kind, int s) {
            if (acts == MOST_ACTS) forgetOldest();
            if (!within(acts, 0, actSieves.length - 1)) return;
            put(actKinds, acts, kind);
            put(actNumbers, acts, s);
            Sieve sieve = sieveAt(s);
            Sieve kept = actSieves[acts];
            if (sieve != null && kept != null) kept.takeOver(sieve);
            acts++;
        }

        void forgetOldest() {
            int last = actSieves.length - 1;
            if (last < 0) return;
            Sieve spare = actSieves[0];
            for (int i = 0; i < last; i++) {
                put(actKinds, i, at(actKinds, i + 1));
                put(actNumbers, i, at(actNumbers, i + 1));
                actSieves[i] = actSieves[i + 1];
            }
            actSieves[last] = spare;
            acts--;
        }

        /** The sieve that came; null if there are as many as can be. */
        Sieve add() {
            if (count >= MOST_SIEVES) return null;
            keepAct(MADE, count);
            count++;
            return sieveAt(count - 1);
        }

        void remove(int s) {
            if (!within(s, 0, count - 1) || count > sieves.length) return;
            keepAct(DROPPED, s);
            Sieve spare = sieves[s];
            for (int i = s; i < count - 1; i++) sieves[i] = sieves[i + 1];
            sieves[count - 1] = spare;
            count--;
        }

        void goBack() {
            if (!within(acts, 1, actSieves.length)) return;
            acts--;
            int kind = at(actKinds, acts);
            int s = at(actNumbers, acts);
            if (kind == MADE) {
                count--;
                return;
            }
            if (kind == DROPPED) openAt(s);
            Sieve sieve = sieveAt(s);
            Sieve kept = actSieves[acts];
            if (sieve != null && kept != null) sieve.takeOver(kept);
        }

        /** Those from a number on go up by one, and a spare one stands there. */
        void openAt(int s) {
            if (!within(s, 0, count) || count >= sieves.length) return;
            Sieve spare = sieves[count];
            for (int i = count; i > s; i--) sieves[i] = sieves[i - 1];
            sieves[s] = spare;
            count++;
        }
    }

    /** The tape, and the text that is read off it into sieves and lists of its own. */
    private static final class Reader {
        static final int UNKNOWN = 0;
        static final int END = 1;
        static final int WORD = 2;
        static final int NUMBER = 3;
        static final int SIGN = 4;

        static final int NO_TOKEN = 1;
        static final int OUT_OF_PLACE = 2;
        static final int WRONG_NUMBER = 3;
        static final int NAME_TAKEN = 4;
        static final int ONE_TOO_MANY = 5;

        static final int LONGEST_WORD = 8;
        static final int LONGEST_NUMBER = 4;
        static final int GREATEST_NUMBER = 9999;

        final int[] tape = new int[MOST_BYTES];
        int fed;
        int length;
        int faultKind = NONE;
        int faultPlace = NONE;
        /** The token looked at: what it is, where it begins, what is behind it, and a number's value. */
        int token;
        int start;
        int end;
        int value;
        final Sieve[] sieves = new Sieve[MOST_SIEVES];
        int sieveCount;
        final Listed[] lists = new Listed[MOST_LISTS];
        int listCount;
        final int[] nameStarts = new int[MOST_SIEVES + MOST_LISTS];
        final int[] nameEnds = new int[MOST_SIEVES + MOST_LISTS];

        Reader() {
            for (int i = 0; i < sieves.length; i++) sieves[i] = new Sieve();
            for (int i = 0; i < lists.length; i++) lists[i] = new Listed();
        }

        Sieve sieveAt(int s) {
            return within(s, 0, sieves.length - 1) ? sieves[s] : null;
        }

        Listed listAt(int l) {
            return within(l, 0, lists.length - 1) ? lists[l] : null;
        }

        int append(int a, int b, int c, int d, int e) {
            if (fed + 20 > MOST_BYTES) return NONE;
            appendInt(a);
            appendInt(b);
            appendInt(c);
            appendInt(d);
            appendInt(e);
            return fed;
        }

        void appendInt(int n) {
            for (int shift = 24; shift >= 0; shift -= 8) {
                put(tape, fed, (n >>> shift) & 255);
                fed++;
            }
        }

        /** Reads the first n bytes of the tape, and empties it: did it find no fault. */
        boolean readText(int n) {
            length = n;
            fed = 0;
            faultKind = 0;
            faultPlace = NONE;
            sieveCount = 0;
            listCount = 0;
            end = 0;
            look();
            // every line takes a byte at least
            for (int line = 0; line <= length && token != END; line++) {
                if (is("sieve")) {
                    if (!readSieve()) return false;
                } else if (is("list")) {
                    if (!readList()) return false;
                } else {
                    return unexpected();
                }
            }
            return true;
        }

        boolean readSieve() {
            Sieve sieve = sieveAt(sieveCount);
            if (sieve == null) return refuse(ONE_TOO_MANY);
            look();
            if (!readName() || !readWord("from")) return false;
            int from = readNumber(0, GREATEST_FROM);
            if (from == NONE || !readWord("by")) return false;
            int by = readNumber(1, GREATEST_BY);
            if (by == NONE || !readWord("many")) return false;
            int many = readNumber(2, MOST_NUMBERS);
            if (many == NONE) return false;
            int kind = kindOfLaw();
            if (kind == NONE) return unexpected();
            look();
            sieve.set(kind, from, by, many);
            if (kind == FIXED && !readFixed(sieve)) return false;
            if (kind == TOLD && !readTold(sieve)) return false;
            if (!readSign()) return false;
            sieveCount++;
            return true;
        }

        int kindOfLaw() {
            if (is("lucky")) return LUCKY;
            if (is("flavius")) return FLAVIUS;
            if (is("ludic")) return LUDIC;
            if (is("prime")) return PRIME;
            if (is("fixed")) return FIXED;
            return is("told") ? TOLD : NONE;
        }

        boolean readFixed(Sieve sieve) {
            int gap = readNumber(2, GREATEST_FIXED_GAP);
            if (gap == NONE || !readWord("rounds")) return false;
            int rounds = readNumber(1, MOST_FIXED_ROUNDS);
            if (rounds == NONE) return false;
            put(sieve.gapsTold, 0, gap);
            sieve.limit = rounds;
            return true;
        }

        boolean readTold(Sieve sieve) {
            for (int i = 0; i <= MOST_GAPS; i++) {
                if (i > 0 && token != NUMBER) return true;
                if (i == MOST_GAPS) return refuseSurplus(2, GREATEST_TOLD_GAP);
                int gap = readNumber(2, GREATEST_TOLD_GAP);
                if (gap == NONE) return false;
                put(sieve.gapsTold, i, gap);
                sieve.limit = i + 1;
            }
            return true;
        }

        boolean readList() {
            Listed listed = listAt(listCount);
            if (listed == null) return refuse(ONE_TOO_MANY);
            look();
            if (!readName()) return false;
            listed.size = 0;
            int least = 0;
            for (int i = 0; i <= MOST_LISTED; i++) {
                if (i > 0 && token != NUMBER) break;
                if (i == MOST_LISTED) return refuseSurplus(least, GREATEST_NUMBER);
                int number = readNumber(least, GREATEST_NUMBER);
                if (number == NONE) return false;
                listed.append(number);
                least = number + 1;
            }
            if (!readSign()) return false;
            listCount++;
            return true;
        }

        boolean readName() {
            if (token != WORD || isReserved()) return unexpected();
            for (int i = 0; i < sieveCount + listCount; i++) {
                if (isSameWord(at(nameStarts, i), at(nameEnds, i))) return refuse(NAME_TAKEN);
            }
            put(nameStarts, sieveCount + listCount, start);
            put(nameEnds, sieveCount + listCount, end);
            look();
            return true;
        }

        boolean readWord(String word) {
            if (!is(word)) return unexpected();
            look();
            return true;
        }

        boolean readSign() {
            if (token != SIGN) return unexpected();
            look();
            return true;
        }

        int readNumber(int least, int most) {
            if (token != NUMBER) {
                unexpected();
                return NONE;
            }
            if (!within(value, least, most)) {
                refuse(WRONG_NUMBER);
                return NONE;
            }
            int number = value;
            look();
            return number;
        }

        /** Of two faults of one number the least kind is told. */
        boolean refuseSurplus(int least, int most) {
            return refuse(within(value, least, most) ? ONE_TOO_MANY : WRONG_NUMBER);
        }

        boolean unexpected() {
            return refuse(token == UNKNOWN ? NO_TOKEN : OUT_OF_PLACE);
        }

        boolean refuse(int why) {
            faultKind = why;
            faultPlace = start;
            return false;
        }

        /** Looks at the token behind the one looked at; a fault of it is told when it is asked for. */
        void look() {
            start = end;
            while (start < length && isBlank(byteAt(start))) start++;
            end = start;
            value = 0;
            int first = byteAt(start);
            if (first == NONE) {
                token = END;
            } else if (first == ';') {
                end++;
                token = SIGN;
            } else if (isLetter(first)) {
                while (end < length && isLetter(byteAt(end))) end++;
                token = end - start <= LONGEST_WORD ? WORD : UNKNOWN;
            } else if (isDigit(first)) {
                for (; end < length && isDigit(byteAt(end)); end++) {
                    if (end - start < LONGEST_NUMBER) value = 10 * value + byteAt(end) - '0';
                }
                token = end - start <= LONGEST_NUMBER ? NUMBER : UNKNOWN;
            } else {
                token = UNKNOWN;
            }
        }

        boolean isReserved() {
            return is("sieve") || is("from") || is("by") || is("many") || is("lucky") || is("flavius") || is("ludic")
                    || is("prime") || is("fixed") || is("rounds") || is("told") || is("list");
        }

        boolean is(String word) {
            if (token != WORD || end - start != word.length()) return false;
            for (int i = 0; i < word.length(); i++) {
                if (byteAt(start + i) != word.charAt(i)) return false;
            }
            return true;
        }

        boolean isSameWord(int otherStart, int otherEnd) {
            if (end - start != otherEnd - otherStart) return false;
            for (int i = 0; i < end - start; i++) {
                if (byteAt(start + i) != byteAt(otherStart + i)) return false;
            }
            return true;
        }

        /** NONE behind the text's end. */
        int byteAt(int i) {
            return i >= 0 && i < length && i < tape.length ? tape[i] : NONE;
        }

        static boolean isBlank(int b) {
            return b == 10 || b == 32;
        }

        static boolean isLetter(int b) {
            return b >= 'a' && b <= 'z';
        }

        static boolean isDigit(int b) {
            return b >= '0' && b <= '9';
        }
    }

    /** A row as a text. */
    private static final class Printer {
        final int[] bytes = new int[MOST_OUT];
        int length;

        void write(Sieve sieve) {
            length = 0;
            int shown = 0;
            for (int place = 1; place <= sieve.size; place++) {
                if (place <= shown) continue;
                if (place > 1) append(' ');
                appendNumber(sieve.numberAt(place));
                int end = Spacing.runEnd(sieve, place);
                if (end - place < 2) continue;
                append('-');
                appendNumber(sieve.numberAt(end));
                shown = end;
            }
        }

        void append(int b) {
            put(bytes, length, b);
            length++;
        }

        void appendNumber(int n) {
            for (int unit = 100000; unit > 0; unit = unit / 10) {
                if (n >= unit || unit == 1) append('0' + n / unit % 10);
            }
        }
    }
}
