/** Promises 16 to 25: numbers and places, now, ahead of rounds and behind them. */
public final class PlacesTest {
    private static final int MOST = Integer.MAX_VALUE;
    private static final int LEAST = Integer.MIN_VALUE;
    /** Its rounds strike 5 11 17 23 29 35, then 19 39, then 27. */
    private static final String LUCKY = "sieve a from 1 by 2 many 20 lucky;";
    private static final Check check = new Check("PlacesTest");

    public static void main(String[] args) {
        number();
        would();
        till();
        rank();
        fate();
        back();
        ahead();
        origin();
        originBetweenHands();
        gone();
        upTo();
        check.end();
    }

    private static SieveHouse done() {
        check.begin(LUCKY);
        check.gives("all", check.house.all(0), 3);
        return check.house;
    }

    private static void number() {
        check.begin(LUCKY);
        SieveHouse x = check.house;
        check.gives("number(0, 1)", x.number(0, 1), 1);
        check.gives("number(0, 20)", x.number(0, 20), 39);
        check.refuses("number(0, 21)", x.number(0, 21), 5);
        check.refuses("number(0, most)", x.number(0, MOST), 5);
        x.round(0);
        check.gives("number(0, 3)", x.number(0, 3), 7);
        check.gives("number(0, 14)", x.number(0, 14), 39);
        check.refuses("number(0, 15)", x.number(0, 15), 5);
        x.strike(0, 1);
        check.gives("number(0, 1)", x.number(0, 1), 3);
        check.refuses("number(0, 0)", x.number(0, 0), 1);
        check.refuses("number(0, least)", x.number(0, LEAST), 1);
        check.refuses("number(1, 0)", x.number(1, 0), 1);
        check.refuses("number(1, 1)", x.number(1, 1), 2);
        check.refuses("number(-1, 1)", x.number(-1, 1), 2);
        check.refuses("number(most, 1)", x.number(MOST, 1), 2);
        check.begin("sieve a from 0 by 1 many 3 prime;");
        check.gives("the number 0", check.house.number(0, 1), 0);
    }

    private static void would() {
        check.begin(LUCKY);
        SieveHouse x = check.house;
        int[] row = {1, 3, 7, 9, 13, 15, 21, 25, 31, 33, 37};
        for (int p = 1; p <= 11; p++) check.gives("would(0, " + p + ")", x.would(0, p), row[p - 1]);
        check.refuses("would(0, 12)", x.would(0, 12), 5);
        check.gives("no round is done by it", x.sieve(0, 5), 0);
        check.gives("no number is struck by it", x.sieve(0, 4), 20);
        check.gives("it is no act", x.many(1), 0);
        x.round(0);
        x.strike(0, 1);
        check.gives("rounds from where it is: 9 is the next gap", x.would(0, 8), 25);
        check.gives("21 is there, 27 is struck", x.would(0, 7), 21);
        check.refuses("would(0, 0)", x.would(0, 0), 1);
        check.refuses("would(1, -1)", x.would(1, -1), 1);
        check.refuses("would(1, 1)", x.would(1, 1), 2);
        check.refuses("would(0, most)", x.would(0, MOST), 5);
    }

    private static void till() {
        check.begin(LUCKY);
        SieveHouse x = check.house;
        int[][] due = {{600, 0}, {20, 0}, {19, 1}, {14, 1}, {13, 2}, {12, 2}, {11, 3}};
        for (int[] d : due) check.gives("till(0, " + d[0] + ")", x.till(0, d[0]), d[1]);
        check.refuses("till(0, 10)", x.till(0, 10), 5);
        check.refuses("till(0, 1)", x.till(0, 1), 5);
        check.refuses("till(0, 0)", x.till(0, 0), 1);
        check.refuses("till(0, 601)", x.till(0, 601), 1);
        check.refuses("till(1, 601)", x.till(1, 601), 1);
        check.refuses("till(1, 5)", x.till(1, 5), 2);
        check.gives("no round is done by it", x.sieve(0, 5), 0);
        x.round(0);
        check.gives("till(0, 14)", x.till(0, 14), 0);
        check.gives("till(0, 11)", x.till(0, 11), 2);
        check.begin("sieve a from 1 by 1 many 2 told 9 9 2;");
        check.gives("rounds that strike nothing count", check.house.till(0, 1), 3);
        check.begin("sieve a from 0 by 1 many 9 lucky;");
        check.refuses("done at once, though 2 at place 3 could strike", check.house.till(0, 8), 5);
        check.gives("done at once", check.house.would(0, 9), 8);
    }

    private static void rank() {
        SieveHouse x = done();
        check.gives("rank(0, 1)", x.rank(0, 1), 1);
        check.gives("rank(0, 21)", x.rank(0, 21), 7);
        check.gives("rank(0, 37)", x.rank(0, 37), 11);
        int[] not = {27, 2, 0, -1, 39, 41, MOST, LEAST};
        for (int n : not) check.refuses("rank(0, " + n + ")", x.rank(0, n), 5);
        check.refuses("rank(1, 1)", x.rank(1, 1), 2);
        check.refuses("rank(-1, 1)", x.rank(-1, 1), 2);
    }

    private static void fate() {
        SieveHouse x = done();
        check.gives("strike", x.strike(0, 21), 7);
        int[][] due = {{5, 1, 3}, {35, 1, 18}, {19, 2, 7}, {39, 2, 14}, {27, 3, 9}, {21, 0, 7}};
        for (int[] d : due) {
            check.gives("fate(0, " + d[0] + ", 0)", x.fate(0, d[0], 0), d[1]);
            check.gives("fate(0, " + d[0] + ", 1)", x.fate(0, d[0], 1), d[2]);
        }
        int[] not = {1, 37, 2, 41, -1, MOST, LEAST};
        for (int n : not) {
            check.refuses("fate(0, " + n + ", 0)", x.fate(0, n, 0), 5);
            check.refuses("fate(0, " + n + ", 1)", x.fate(0, n, 1), 5);
        }
        check.refuses("fate(0, 5, 2)", x.fate(0, 5, 2), 1);
        check.refuses("fate(0, 5, -1)", x.fate(0, 5, -1), 1);
        check.refuses("fate(1, 5, 2)", x.fate(1, 5, 2), 1);
        check.refuses("fate(1, 5, 0)", x.fate(1, 5, 0), 2);
    }

    private static void back() {
        SieveHouse x = done();
        x.strike(0, 21);
        int[][] due = {{1, 1, 1}, {1, 3, 4}, {1, 14, 20}, {2, 6, 6}, {2, 7, 8}, {2, 12, 13}, {3, 7, 7}, {3, 9, 10}, {3, 11, 12}};
        for (int[] d : due) check.gives("back(0, " + d[0] + ", " + d[1] + ")", x.back(0, d[0], d[1]), d[2]);
        check.refuses("back(0, 1, 15)", x.back(0, 1, 15), 5);
        check.refuses("back(0, 2, 13)", x.back(0, 2, 13), 5);
        check.refuses("back(0, 3, 12)", x.back(0, 3, 12), 5);
        check.refuses("back(0, 4, 1)", x.back(0, 4, 1), 5);
        check.refuses("back(0, most, most)", x.back(0, MOST, MOST), 5);
        check.refuses("back(0, 0, 1)", x.back(0, 0, 1), 1);
        check.refuses("back(0, 1, 0)", x.back(0, 1, 0), 1);
        check.refuses("back(1, 1, 0)", x.back(1, 1, 0), 1);
        check.refuses("back(1, 1, 1)", x.back(1, 1, 1), 2);
    }

    private static void ahead() {
        SieveHouse x = done();
        x.strike(0, 21);
        int[][] due = {{1, 1, 1}, {1, 4, 3}, {1, 20, 14}, {2, 6, 6}, {2, 8, 7}, {2, 13, 12}, {3, 7, 7}, {3, 10, 9}, {3, 12, 11}};
        for (int[] d : due) check.gives("ahead(0, " + d[0] + ", " + d[1] + ")", x.ahead(0, d[0], d[1]), d[2]);
        int[][] not = {{1, 3}, {1, 18}, {1, 21}, {2, 7}, {2, 14}, {2, 15}, {3, 9}, {3, 13}, {4, 1}, {MOST, MOST}};
        for (int[] n : not) check.refuses("ahead(0, " + n[0] + ", " + n[1] + ")", x.ahead(0, n[0], n[1]), 5);
        check.refuses("ahead(0, 0, 1)", x.ahead(0, 0, 1), 1);
        check.refuses("ahead(0, 1, 0)", x.ahead(0, 1, 0), 1);
        check.refuses("ahead(1, 0, 1)", x.ahead(1, 0, 1), 1);
        check.refuses("ahead(1, 1, 1)", x.ahead(1, 1, 1), 2);
    }

    private static void origin() {
        check.begin(LUCKY);
        SieveHouse x = check.house;
        check.refuses("no round", x.origin(0, 1), 5);
        x.round(0);
        check.gives("origin(0, 14)", x.origin(0, 14), 20);
        check.refuses("origin(0, 15)", x.origin(0, 15), 5);
        x.all(0);
        check.gives("origin(0, 7)", x.origin(0, 7), 11);
        check.gives("origin(0, 11)", x.origin(0, 11), 19);
        x.strike(0, 21);
        check.gives("one struck by hand since is there yet", x.origin(0, 7), 11);
        check.gives("origin(0, 11)", x.origin(0, 11), 19);
        check.refuses("origin(0, 12)", x.origin(0, 12), 5);
        check.refuses("origin(0, 0)", x.origin(0, 0), 1);
        check.refuses("origin(1, 0)", x.origin(1, 0), 1);
        check.refuses("origin(1, 1)", x.origin(1, 1), 2);
        check.refuses("origin(0, most)", x.origin(0, MOST), 5);
    }

    private static void originBetweenHands() {
        check.begin(LUCKY);
        SieveHouse x = check.house;
        check.gives("by hand ahead of all rounds", x.strike(0, 1), 1);
        check.gives("round", x.round(0), 3);
        check.gives("13 was at place 6 of 3 5 7 ..", x.origin(0, 5), 6);
        check.gives("by hand", x.strike(0, 3), 1);
        check.gives("none came between yet", x.origin(0, 5), 6);
        check.gives("round", x.round(0), 1);
        check.refuses("by hand between two rounds", x.origin(0, 5), 5);
        check.gives("the last round alone", x.back(0, 2, 9), 10);
        x.undo();
        check.gives("none came between again", x.origin(0, 5), 6);
        x.undo();
        check.gives("7 is the gap, as 3 is there again", x.round(0), 2);
        check.gives("back through two", x.origin(0, 5), 6);
        check.gives("longer: 3 strikes seven of 21, 7 two of 14", x.longer(0, 21), 12);
        check.gives("anew, no hand", x.origin(0, 1), 1);
    }

    private static void gone() {
        SieveHouse x = done();
        check.gives("gone(0, -1)", x.gone(0, -1), 9);
        int[] struck = {5, 11, 17, 19, 23, 27, 29, 35, 39};
        for (int k = 0; k < 9; k++) check.gives("gone(0, " + k + ")", x.gone(0, k), struck[k]);
        check.refuses("gone(0, 9)", x.gone(0, 9), 5);
        check.refuses("gone(0, most)", x.gone(0, MOST), 5);
        x.strike(0, 21);
        check.gives("those by hand, too", x.gone(0, -1), 10);
        check.gives("gone(0, 4)", x.gone(0, 4), 21);
        x.strike(0, 1);
        check.gives("the least number there was", x.gone(0, 0), 1);
        check.refuses("gone(0, -2)", x.gone(0, -2), 1);
        check.refuses("gone(1, -2)", x.gone(1, -2), 1);
        check.refuses("gone(1, -1)", x.gone(1, -1), 2);
        check.begin(LUCKY);
        check.gives("none", check.house.gone(0, -1), 0);
        check.refuses("none", check.house.gone(0, 0), 5);
    }

    private static void upTo() {
        SieveHouse x = done();
        int[][] due = {{LEAST, 0}, {-1, 0}, {0, 0}, {1, 1}, {8, 3}, {9, 4}, {36, 10}, {37, 11}, {MOST, 11}};
        for (int[] d : due) check.gives("upTo(0, " + d[0] + ")", x.upTo(0, d[0]), d[1]);
        check.refuses("upTo(1, 5)", x.upTo(1, 5), 2);
        check.refuses("upTo(-1, 5)", x.upTo(-1, 5), 2);
    }
}
