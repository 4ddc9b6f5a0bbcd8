/** Promises 26 to 45 and the terms' paragraph 3: what a row tells as it is now. */
public final class GapsTest {
    private static final int MOST = Integer.MAX_VALUE;
    private static final int LEAST = Integer.MIN_VALUE;
    /** When it is done: 1 3 7 9 13 15 21 25 31 33 37, whose gaps are 2 4 2 4 2 6 4 6 2 4. */
    private static final String LUCKY = "sieve a from 1 by 2 many 20 lucky;";
    private static final Check check = new Check("GapsTest");

    public static void main(String[] args) {
        gap();
        gaps();
        usual();
        record();
        pairs();
        triples();
        sums();
        misses();
        run();
        progression();
        rests();
        ring();
        chain();
        spread();
        sketch();
        balance();
        pattern();
        mirror();
        half();
        check.end();
    }

    private static SieveHouse done() {
        check.begin(LUCKY);
        check.gives("all", check.house.all(0), 3);
        return check.house;
    }

    /** The numbers from 1 to many but those told. */
    private static SieveHouse without(int many, int... struck) {
        check.begin("sieve a from 1 by 1 many " + many + " flavius;");
        for (int n : struck) check.house.strike(0, n);
        check.gives("numbers left", check.house.sieve(0, 4), many - struck.length);
        return check.house;
    }

    private static void gap() {
        SieveHouse x = done();
        int[] due = {2, 4, 2, 4, 2, 6, 4, 6, 2, 4};
        for (int p = 1; p <= 10; p++) check.gives("gap(0, " + p + ")", x.gap(0, p), due[p - 1]);
        check.refuses("gap(0, 11)", x.gap(0, 11), 5);
        check.refuses("gap(0, most)", x.gap(0, MOST), 5);
        check.refuses("gap(0, 0)", x.gap(0, 0), 1);
        check.refuses("gap(0, least)", x.gap(0, LEAST), 1);
        check.refuses("gap(1, 0)", x.gap(1, 0), 1);
        check.refuses("gap(1, 1)", x.gap(1, 1), 2);
    }

    private static void gaps() {
        SieveHouse x = done();
        int[] due = {6, 6, 2, 3};
        for (int what = 0; what < 4; what++) check.gives("gaps(0, " + what + ")", x.gaps(0, what), due[what]);
        check.refuses("gaps(0, 4)", x.gaps(0, 4), 1);
        check.refuses("gaps(0, -1)", x.gaps(0, -1), 1);
        check.refuses("gaps(1, 4)", x.gaps(1, 4), 1);
        check.refuses("gaps(1, 0)", x.gaps(1, 0), 2);
        int[][] many = {{2, 4}, {4, 4}, {6, 2}, {1, 0}, {0, 0}, {-1, 0}, {LEAST, 0}, {MOST, 0}};
        for (int[] m : many) check.gives("gapsOf(0, " + m[0] + ")", x.gapsOf(0, m[0]), m[1]);
        check.refuses("gapsOf(1, 2)", x.gapsOf(1, 2), 2);
        int[] two = {1, 1, 1, 1};
        for (int what = 0; what < 4; what++) check.gives("gaps of two numbers", without(2).gaps(0, what), two[what]);
        check.gives("the greatest at place 2", without(4, 3).gaps(0, 1), 2);
        x = without(10, 3, 6, 7);
        check.gives("gaps that come once count", x.gaps(0, 3), 3);
        check.gives("a greater one later", x.gaps(0, 1), 4);
        check.gives("rests, that the next call must not see", x.rests(0, 999, -1), 7);
        check.gives("gaps behind rests", x.gaps(0, 3), 3);
        check.gives("usual behind rests", x.usual(0), 1);
        x = without(2, 1);
        for (int what = 0; what < 4; what++) check.refuses("gaps of one number", x.gaps(0, what), 5);
        check.gives("gapsOf of one number", x.gapsOf(0, 1), 0);
        check.gives("gapsOf(0, -1) of one number", x.gapsOf(0, -1), 0);
    }

    private static void usual() {
        SieveHouse x = done();
        check.gives("of several the least", x.usual(0), 2);
        x.strike(0, 1);
        check.gives("most often", x.usual(0), 4);
        check.refuses("usual(1)", x.usual(1), 2);
        check.refuses("usual(-1)", x.usual(-1), 2);
        check.refuses("one number alone", without(2, 2).usual(0), 5);
        check.gives("two numbers", without(2).usual(0), 1);
        check.gives("the last gap", without(3, 2).usual(0), 2);
        check.begin("sieve a from 999 by 99 many 600 fixed 2 rounds 1;");
        check.gives("round", check.house.round(0), 300);
        check.gives("usual", check.house.usual(0), 198);
    }

    private static void record() {
        SieveHouse x = done();
        check.gives("record(0, -1)", x.record(0, -1), 3);
        check.gives("record(0, 0)", x.record(0, 0), 1);
        check.gives("record(0, 1)", x.record(0, 1), 2);
        check.gives("record(0, 2)", x.record(0, 2), 6);
        check.refuses("record(0, 3)", x.record(0, 3), 5);
        check.refuses("record(0, most)", x.record(0, MOST), 5);
        check.refuses("record(0, -2)", x.record(0, -2), 1);
        check.refuses("record(1, -2)", x.record(1, -2), 1);
        check.refuses("record(1, 0)", x.record(1, 0), 2);
        x = without(2, 1);
        check.gives("records of one number", x.record(0, -1), 0);
        check.refuses("records of one number", x.record(0, 0), 5);
    }

    private static void pairs() {
        SieveHouse x = done();
        int[][] due = {{2, 4, 1, 31}, {4, 4, 3, 33}, {6, 7, 1, 31}, {36, 1, 1, 1}};
        for (int[] d : due) {
            for (int what = 0; what < 3; what++) check.gives("pairs(0, " + d[0] + ", " + what + ")", x.pairs(0, d[0], what), d[what + 1]);
        }
        int[] none = {1, 5, 38, MOST};
        for (int d : none) {
            check.gives("pairs(0, " + d + ", 0)", x.pairs(0, d, 0), 0);
            check.refuses("pairs(0, " + d + ", 1)", x.pairs(0, d, 1), 5);
            check.refuses("pairs(0, " + d + ", 2)", x.pairs(0, d, 2), 5);
        }
        check.refuses("pairs(0, 0, 0)", x.pairs(0, 0, 0), 1);
        check.refuses("pairs(0, -2, 0)", x.pairs(0, -2, 0), 1);
        check.refuses("pairs(0, 2, 3)", x.pairs(0, 2, 3), 1);
        check.refuses("pairs(0, 2, -1)", x.pairs(0, 2, -1), 1);
        check.refuses("pairs(1, 0, 0)", x.pairs(1, 0, 0), 1);
        check.refuses("pairs(1, 2, 0)", x.pairs(1, 2, 0), 2);
    }

    private static void triples() {
        SieveHouse x = done();
        check.gives("triples(0, 2, 6)", x.triples(0, 2, 6), 3);
        check.gives("triples(0, 6, 12)", x.triples(0, 6, 12), 4);
        check.gives("triples(0, 1, most)", x.triples(0, 1, MOST), 0);
        check.gives("triples(0, 2, 36)", x.triples(0, 2, 36), 1);
        check.refuses("triples(0, 2, 2)", x.triples(0, 2, 2), 1);
        check.refuses("triples(0, 3, 2)", x.triples(0, 3, 2), 1);
        check.refuses("triples(0, 0, 2)", x.triples(0, 0, 2), 1);
        check.refuses("triples(0, -1, 2)", x.triples(0, -1, 2), 1);
        check.refuses("triples(1, 2, 2)", x.triples(1, 2, 2), 1);
        check.refuses("triples(1, 2, 6)", x.triples(1, 2, 6), 2);
    }

    private static void sums() {
        SieveHouse x = done();
        int[][] due = {{2, 1}, {3, 0}, {4, 1}, {14, 2}, {16, 3}, {46, 4}, {60, 0}, {74, 1}, {76, 0}, {0, 0}, {-2, 0}, {LEAST, 0}, {MOST, 0}};
        for (int[] d : due) check.gives("sums(0, " + d[0] + ")", x.sums(0, d[0]), d[1]);
        check.refuses("sums(1, 2)", x.sums(1, 2), 2);
        check.refuses("sums(-1, 2)", x.sums(-1, 2), 2);
        check.begin("sieve a from 0 by 1 many 2 flavius;");
        check.gives("0 twice", check.house.sums(0, 0), 1);
    }

    private static void misses() {
        SieveHouse x = done();
        int[][] due = {{1, 3}, {2, 60}, {10, 72}, {29, 31}, {58, 60}};
        for (int[] d : due) check.gives("misses(0, " + d[0] + ")", x.misses(0, d[0]), d[1]);
        check.refuses("2 and 74 are sums", x.misses(0, 72), 5);
        check.refuses("74 is the last one looked at", x.misses(0, 74), 5);
        check.refuses("misses(0, 99)", x.misses(0, 99), 5);
        check.refuses("misses(0, 0)", x.misses(0, 0), 1);
        check.refuses("misses(0, 100)", x.misses(0, 100), 1);
        check.refuses("misses(1, 0)", x.misses(1, 0), 1);
        check.refuses("misses(1, 1)", x.misses(1, 1), 2);
    }

    private static void run() {
        SieveHouse x = done();
        check.gives("run(0, 0)", x.run(0, 0), 2);
        check.gives("run(0, 1)", x.run(0, 1), 1);
        x = without(12, 4);
        check.gives("5 to 12", x.run(0, 0), 8);
        check.gives("5 to 12", x.run(0, 1), 4);
        x = without(12, 4, 8, 12);
        check.gives("of several", x.run(0, 0), 3);
        check.gives("of several the first", x.run(0, 1), 1);
        x = without(12, 2, 4, 8, 12);
        check.gives("5 to 7", x.run(0, 0), 3);
        check.gives("5 to 7", x.run(0, 1), 3);
        x = without(2, 1);
        check.gives("one number", x.run(0, 0), 1);
        check.gives("one number", x.run(0, 1), 1);
        check.refuses("run(0, 2)", x.run(0, 2), 1);
        check.refuses("run(0, -1)", x.run(0, -1), 1);
        check.refuses("run(1, 2)", x.run(1, 2), 1);
        check.refuses("run(1, 0)", x.run(1, 0), 2);
    }

    private static void progression() {
        SieveHouse x = done();
        int[][] due = {{6, 4, 3}, {2, 2, 1}, {5, 1, 1}, {36, 2, 1}, {12, 4, 1}, {10, 2, 3}, {1, 1, 1}, {MOST, 1, 1}};
        for (int[] d : due) {
            check.gives("progression(0, " + d[0] + ", 0)", x.progression(0, d[0], 0), d[1]);
            check.gives("progression(0, " + d[0] + ", 1)", x.progression(0, d[0], 1), d[2]);
        }
        check.gives("4 to 7", without(7, 3).progression(0, 1, 1), 4);
        check.gives("4 to 7", without(7, 3).progression(0, 1, 0), 4);
        x = done();
        check.refuses("progression(0, 0, 0)", x.progression(0, 0, 0), 1);
        check.refuses("progression(0, -6, 0)", x.progression(0, -6, 0), 1);
        check.refuses("progression(0, 6, 2)", x.progression(0, 6, 2), 1);
        check.refuses("progression(1, 6, 2)", x.progression(1, 6, 2), 1);
        check.refuses("progression(1, 6, 0)", x.progression(1, 6, 0), 2);
    }

    private static void rests() {
        SieveHouse x = done();
        int[][] due = {{3, 0, 5}, {3, 1, 6}, {3, 2, 0}, {3, -1, 2}, {1, 0, 11}, {1, -1, 1}, {999, 37, 1}, {999, 998, 0}, {999, -1, 11}};
        for (int[] d : due) check.gives("rests(0, " + d[0] + ", " + d[1] + ")", x.rests(0, d[0], d[1]), d[2]);
        int[][] not = {{0, 0}, {1000, 0}, {-3, 0}, {3, 3}, {3, -2}, {0, -1}, {LEAST, -1}};
        for (int[] n : not) check.refuses("rests(0, " + n[0] + ", " + n[1] + ")", x.rests(0, n[0], n[1]), 1);
        check.refuses("rests(1, 0, 0)", x.rests(1, 0, 0), 1);
        check.refuses("rests(1, 3, 0)", x.rests(1, 3, 0), 2);
    }

    private static void ring() {
        SieveHouse x = done();
        int[] by2 = {3, 9, 15, 25, 33, 1, 13, 31, 7, 37, 21};
        for (int k = 0; k < 11; k++) check.gives("ring(0, 2, " + k + ")", x.ring(0, 2, k), by2[k]);
        check.gives("the last one", x.ring(0, 2, -1), 21);
        check.refuses("ring(0, 2, 11)", x.ring(0, 2, 11), 5);
        check.refuses("ring(0, 2, most)", x.ring(0, 2, MOST), 5);
        check.gives("ring(0, 1, 0)", x.ring(0, 1, 0), 1);
        check.gives("ring(0, 1, -1)", x.ring(0, 1, -1), 37);
        check.gives("ring(0, 11, 0)", x.ring(0, 11, 0), 37);
        check.gives("ring(0, 11, 1)", x.ring(0, 11, 1), 1);
        check.gives("ring(0, 12, 0)", x.ring(0, 12, 0), 1);
        check.gives("ring(0, 12, 1)", x.ring(0, 12, 1), 7);
        check.gives("ring(0, most, 0)", x.ring(0, MOST, 0), 1);
        check.refuses("ring(0, 0, 0)", x.ring(0, 0, 0), 1);
        check.refuses("ring(0, -1, 0)", x.ring(0, -1, 0), 1);
        check.refuses("ring(0, 1, -2)", x.ring(0, 1, -2), 1);
        check.refuses("ring(1, 0, 0)", x.ring(1, 0, 0), 1);
        check.refuses("ring(1, 1, 0)", x.ring(1, 1, 0), 2);
        check.gives("the row stands", x.sieve(0, 4), 11);
        check.gives("a ring of one", without(2, 1).ring(0, 7, -1), 2);
    }

    private static void chain() {
        SieveHouse x = done();
        int[][] due = {{1, 1, 1, 1}, {3, 3, 21, 0}, {7, 2, 21, 0}, {9, 2, 31, 0}, {13, 1, 13, 0}, {37, 1, 37, 0}};
        for (int[] d : due) {
            for (int what = 0; what < 3; what++) check.gives("chain(0, " + d[0] + ", " + what + ")", x.chain(0, d[0], what), d[what + 1]);
        }
        int[] not = {5, 0, -1, 39, MOST, LEAST};
        for (int n : not) check.refuses("chain(0, " + n + ", 0)", x.chain(0, n, 0), 5);
        check.refuses("chain(0, 3, 3)", x.chain(0, 3, 3), 1);
        check.refuses("chain(0, 3, -1)", x.chain(0, 3, -1), 1);
        check.refuses("chain(1, 3, 3)", x.chain(1, 3, 3), 1);
        check.refuses("chain(1, 3, 0)", x.chain(1, 3, 0), 2);
        check.begin("sieve a from 0 by 1 many 9 flavius;");
        int[] down = {9, 0, 0};
        for (int what = 0; what < 3; what++) check.gives("8 7 6 .. 0", check.house.chain(0, 8, what), down[what]);
        check.gives("the whole row", without(600, 1).chain(0, 2, 0), 599);
    }

    private static void spread() {
        SieveHouse x = done();
        int[][] due = {{2, 2, 1}, {3, 6, 1}, {4, 8, 1}, {5, 12, 1}, {10, 32, 1}, {11, 36, 1}};
        for (int[] d : due) {
            check.gives("spread(0, " + d[0] + ", 0)", x.spread(0, d[0], 0), d[1]);
            check.gives("spread(0, " + d[0] + ", 1)", x.spread(0, d[0], 1), d[2]);
        }
        check.refuses("spread(0, 12, 0)", x.spread(0, 12, 0), 5);
        check.refuses("spread(0, most, 1)", x.spread(0, MOST, 1), 5);
        check.refuses("spread(0, 1, 0)", x.spread(0, 1, 0), 1);
        check.refuses("spread(0, least, 0)", x.spread(0, LEAST, 0), 1);
        check.refuses("spread(0, 2, 2)", x.spread(0, 2, 2), 1);
        check.refuses("spread(1, 1, 0)", x.spread(1, 1, 0), 1);
        check.refuses("spread(1, 2, 0)", x.spread(1, 2, 0), 2);
        x = without(12, 2, 4);
        check.gives("5 6 7", x.spread(0, 3, 0), 2);
        check.gives("5 6 7", x.spread(0, 3, 1), 3);
        x = without(9, 2, 4, 6);
        check.gives("the last ones", x.spread(0, 3, 1), 4);
        check.gives("3 4", without(5, 2).spread(0, 2, 1), 2);
    }

    private static void sketch() {
        SieveHouse x = done();
        int[][] cells = {{5, 4, 2, 2, 3}, {7, 5, 3, 3}, {20, 11}, {19, 11, 0}, {600, 11}, {1, 1, 1, 0, 1, 1, 0, 1, 1, 0, 0, 1, 0, 1, 0, 0, 1, 1, 0, 1, 0}};
        for (int[] c : cells) {
            check.gives("sketch(0, " + c[0] + ", -1)", x.sketch(0, c[0], -1), c.length - 1);
            for (int k = 0; k < c.length - 1; k++) check.gives("sketch(0, " + c[0] + ", " + k + ")", x.sketch(0, c[0], k), c[k + 1]);
            check.refuses("sketch(0, " + c[0] + ") behind the last", x.sketch(0, c[0], c.length - 1), 5);
        }
        check.refuses("sketch(0, 600, most)", x.sketch(0, 600, MOST), 5);
        check.refuses("sketch(0, 0, 0)", x.sketch(0, 0, 0), 1);
        check.refuses("sketch(0, 601, 0)", x.sketch(0, 601, 0), 1);
        check.refuses("sketch(0, 5, -2)", x.sketch(0, 5, -2), 1);
        check.refuses("sketch(1, 0, 0)", x.sketch(1, 0, 0), 1);
        check.refuses("sketch(1, 5, 0)", x.sketch(1, 5, 0), 2);
    }

    private static void balance() {
        SieveHouse x = done();
        int[] due = {0, 0, 2, 2, 4, 4, 8, 10, 14, 14, 16};
        for (int p = 1; p <= 11; p++) check.gives("balance(0, " + p + ")", x.balance(0, p), due[p - 1]);
        check.refuses("balance(0, 12)", x.balance(0, 12), 5);
        check.refuses("balance(0, most)", x.balance(0, MOST), 5);
        check.refuses("balance(0, 0)", x.balance(0, 0), 1);
        check.refuses("balance(1, 0)", x.balance(1, 0), 1);
        check.refuses("balance(1, 1)", x.balance(1, 1), 2);
    }

    private static void pattern() {
        SieveHouse x = done();
        int[][] due = {{2, 4, 0, 3}, {4, 2, 0, 2}, {2, 4, 2, 2}, {4, 6, 2, 1}, {6, 2, 4, 1}, {2, 4, 6, 0}, {2, 2, 0, 0}, {MOST, MOST, MOST, 0}};
        for (int[] d : due) check.gives("pattern(0, " + d[0] + ", " + d[1] + ", " + d[2] + ")", x.pattern(0, d[0], d[1], d[2]), d[3]);
        check.refuses("pattern(0, 0, 4, 0)", x.pattern(0, 0, 4, 0), 1);
        check.refuses("pattern(0, 2, 0, 0)", x.pattern(0, 2, 0, 0), 1);
        check.refuses("pattern(0, 2, 4, -1)", x.pattern(0, 2, 4, -1), 1);
        check.refuses("pattern(1, 2, 4, -1)", x.pattern(1, 2, 4, -1), 1);
        check.refuses("pattern(1, 2, 4, 0)", x.pattern(1, 2, 4, 0), 2);
        check.gives("they may lie over one another", without(6, 6).pattern(0, 1, 1, 1), 2);
        check.gives("no gaps", without(2, 1).pattern(0, 1, 1, 0), 0);
    }

    private static void mirror() {
        SieveHouse x = done();
        check.gives("4 2 6 4 6 2 4", x.mirror(0, 0), 7);
        check.gives("4 2 6 4 6 2 4", x.mirror(0, 1), 4);
        check.refuses("mirror(0, 2)", x.mirror(0, 2), 1);
        check.refuses("mirror(0, -1)", x.mirror(0, -1), 1);
        check.refuses("mirror(1, 2)", x.mirror(1, 2), 1);
        check.refuses("mirror(1, 0)", x.mirror(1, 0), 2);
        int[][] struck = {{3}, {3, 5}, {4, 5, 7, 9}, {5}};
        int[] many = {4, 6, 10, 10};
        int[][] due = {{1, 1}, {2, 2}, {2, 1}, {7, 1}};
        for (int i = 0; i < 4; i++) {
            for (int what = 0; what < 2; what++) check.gives("mirror of row " + i, without(many[i], struck[i]).mirror(0, what), due[i][what]);
        }
        check.gives("one gap", without(2).mirror(0, 0), 1);
        x = without(2, 1);
        check.refuses("one number alone", x.mirror(0, 0), 5);
        check.refuses("one number alone", x.mirror(0, 1), 5);
    }

    private static void half() {
        SieveHouse x = done();
        check.gives("of eleven the sixth", x.half(0), 15);
        x.strike(0, 37);
        check.gives("of ten the fifth", x.half(0), 13);
        check.refuses("half(1)", x.half(1), 2);
        check.refuses("half(-1)", x.half(-1), 2);
        check.gives("of two the lesser", without(2).half(0), 1);
        check.gives("of one", without(2, 1).half(0), 2);
    }
}
