/** Promises 46 to 56: sieves side by side, lists, a row as a text. */
public final class ComparedTest {
    private static final int MOST = Integer.MAX_VALUE;
    private static final int LEAST = Integer.MIN_VALUE;
    /** When they are done: 1 3 7 9 13 15 21 25 31 33 37, and 1 2 3 5 7 11 13 17 19. */
    private static final String TWO = "sieve a from 1 by 2 many 20 lucky; sieve b from 1 by 1 many 20 prime;";
    private static final String LISTS = "list c 7 9 13; list d 2 3 5 7; list e 15 21 27;";
    private static final Check check = new Check("ComparedTest");

    public static void main(String[] args) {
        both();
        lead();
        leadFromNought();
        alike();
        alikeBehindShorter();
        through();
        list();
        fits();
        guess();
        meets();
        apart();
        print();
        out();
        longestOut();
        check.end();
    }

    private static SieveHouse done() {
        check.begin(TWO + LISTS);
        check.gives("all", check.house.all(0), 3);
        check.gives("all", check.house.all(1), 2);
        return check.house;
    }

    private static void both() {
        SieveHouse x = done();
        int[][] due = {{0, 1, 4, 7, 5, 2}, {1, 0, 4, 5, 7, 2}};
        for (int[] d : due) {
            for (int what = 0; what < 4; what++) check.gives("both(" + d[0] + ", " + d[1] + ", " + what + ")", x.both(d[0], d[1], what), d[what + 2]);
        }
        x.make(1, 1, 2, 3);
        x.make(1, 1, 2, 5);
        check.gives("the other one has all", x.both(2, 3, 3), 7);
        check.gives("the first one has all", x.both(3, 2, 3), 7);
        x.strike(3, 9);
        check.gives("the last one alone", x.both(2, 3, 3), 7);
        x.strike(2, 1);
        check.gives("the first one alone", x.both(2, 3, 3), 1);
        check.gives("the first one alone", x.both(3, 2, 3), 1);
        x.strike(3, 1);
        x.strike(3, 7);
        check.refuses("alike", x.both(3, 2, 3), 5);
        x = done();
        x.make(1, 37, 2, 2);
        check.gives("at the first one's end", x.both(0, 2, 0), 1);
        check.gives("at the other one's head", x.both(2, 0, 0), 1);
        x = done();
        check.gives("with itself", x.both(0, 0, 0), 11);
        check.gives("with itself", x.both(0, 0, 1), 0);
        check.gives("with itself", x.both(0, 0, 2), 0);
        check.refuses("with itself", x.both(0, 0, 3), 5);
        check.refuses("both(0, 1, 4)", x.both(0, 1, 4), 1);
        check.refuses("both(0, 1, -1)", x.both(0, 1, -1), 1);
        check.refuses("both(2, 0, 4)", x.both(2, 0, 4), 1);
        check.refuses("both(0, 2, 0)", x.both(0, 2, 0), 2);
        check.refuses("both(2, 0, 0)", x.both(2, 0, 0), 2);
        check.refuses("both(-1, 0, 0)", x.both(-1, 0, 0), 2);
    }

    private static void lead() {
        SieveHouse x = done();
        int[][] due = {{0, 1, 2, 37, -3, 1, 2}, {1, 0, 3, 19, -2, 1, -2}, {0, 0, 0, 0, 0, 0, 0}};
        for (int[] d : due) {
            for (int what = 0; what < 5; what++) check.gives("lead(" + d[0] + ", " + d[1] + ", " + what + ")", x.lead(d[0], d[1], what), d[what + 2]);
        }
        check.refuses("lead(0, 1, 5)", x.lead(0, 1, 5), 1);
        check.refuses("lead(0, 1, -1)", x.lead(0, 1, -1), 1);
        check.refuses("lead(2, 0, 5)", x.lead(2, 0, 5), 1);
        check.refuses("lead(2, 0, 0)", x.lead(2, 0, 0), 2);
        check.refuses("lead(0, 2, 0)", x.lead(0, 2, 0), 2);
    }

    private static void leadFromNought() {
        SieveHouse x = done();
        check.gives("a sieve 0 1", x.make(1, 0, 1, 2), 2);
        int[][] due = {{2, 0, 1, 0, -9, 1, -9}, {0, 2, 9, 37, -1, 1, 9}};
        for (int[] d : due) {
            for (int what = 0; what < 5; what++) check.gives("lead(" + d[0] + ", " + d[1] + ", " + what + ")", x.lead(d[0], d[1], what), d[what + 2]);
        }
        x.make(1, 5, 1, 2);
        int[] late = {0, 6, -2, 0, 0};
        for (int what = 0; what < 5; what++) check.gives("5 6 and 0 1", x.lead(3, 2, what), late[what]);
        check.begin("sieve a from 5 by 1 many 7 flavius; sieve b from 5 by 1 many 7 flavius;");
        x = check.house;
        // the first one has 5 10 11, the other one 6 7 8 9
        for (int n = 6; n < 10; n++) x.strike(0, n);
        x.strike(1, 5);
        x.strike(1, 10);
        x.strike(1, 11);
        int[] ups = {1, 5, -3, 1, -1};
        for (int what = 0; what < 5; what++) check.gives("up, level, down", x.lead(0, 1, what), ups[what]);
        x.undo();
        x.undo();
        x.undo();
        x.strike(1, 7);
        x.strike(1, 8);
        x.strike(1, 9);
        x.strike(1, 5);
        check.gives("up, level, up is no turn", x.lead(0, 1, 3), 0);
        check.gives("the greatest", x.lead(0, 1, 0), 1);
        check.gives("the first one with it", x.lead(0, 1, 1), 5);
        check.gives("at last", x.lead(0, 1, 4), 0);
        check.gives("a lead of -1 has STATUS 0", x.lead(1, 0, 2), -1);
    }

    private static void alike() {
        SieveHouse x = done();
        check.gives("3 and 2 are unlike", x.alike(0, 1), 0);
        check.gives("with itself", x.alike(0, 0), 3);
        check.gives("a longer lucky one", x.make(0, 1, 2, 30), 2);
        check.gives("none done", x.alike(0, 2), 0);
        check.gives("round", x.round(2), 10);
        check.gives("one done", x.alike(0, 2), 1);
        check.gives("all", x.all(2), 4);
        check.gives("of rounds both have done", x.alike(0, 2), 3);
        check.gives("of rounds both have done", x.alike(2, 0), 3);
        check.refuses("alike(0, 3)", x.alike(0, 3), 2);
        check.refuses("alike(-1, 0)", x.alike(-1, 0), 2);
        check.begin("sieve a from 1 by 1 many 40 flavius; sieve b from 0 by 7 many 9 told 2 3 9 5;");
        check.gives("all", check.house.all(1), 4);
        check.house.all(0);
        check.gives("2 3 4 5 and 2 3 9 5", check.house.alike(0, 1), 2);
    }

    /** A shorter row has fewer rounds; those it had are no longer done. */
    private static void alikeBehindShorter() {
        check.begin("sieve a from 1 by 1 many 20 flavius; sieve b from 1 by 1 many 20 flavius;");
        check.gives("all", check.house.all(0), 4);
        check.gives("all", check.house.all(1), 4);
        check.gives("alike", check.house.alike(0, 1), 4);
        check.gives("1 3", check.house.longer(0, 4), 2);
        check.gives("one round is left", check.house.alike(0, 1), 1);
        check.gives("one round is left", check.house.alike(1, 0), 1);
        check.refuses("no second round", check.house.told(0, 2, 0), 5);
    }

    private static void through() {
        SieveHouse x = done();
        int[][] due = {{0, 1, 1, 3, 7, 13, 21, 37}, {1, 0, 1, 3, 13, 19}};
        for (int[] d : due) {
            check.gives("how many", x.through(d[0], d[1], -1), d.length - 2);
            for (int k = 0; k < d.length - 2; k++) check.gives("through(" + d[0] + ", " + d[1] + ", " + k + ")", x.through(d[0], d[1], k), d[k + 2]);
            check.refuses("behind the last", x.through(d[0], d[1], d.length - 2), 5);
        }
        check.refuses("through(0, 1, most)", x.through(0, 1, MOST), 5);
        check.refuses("through(0, 1, -2)", x.through(0, 1, -2), 1);
        check.refuses("through(2, 0, -2)", x.through(2, 0, -2), 1);
        check.refuses("through(2, 0, 0)", x.through(2, 0, 0), 2);
        check.refuses("through(0, 2, 0)", x.through(0, 2, 0), 2);
        x.make(0, 900, 1, 9);
        check.gives("none", x.through(0, 2, -1), 0);
    }

    private static void list() {
        SieveHouse x = done();
        check.gives("list(0, -1)", x.list(0, -1), 3);
        check.gives("list(1, -1)", x.list(1, -1), 4);
        check.gives("list(0, 0)", x.list(0, 0), 7);
        check.gives("list(0, 2)", x.list(0, 2), 13);
        check.refuses("list(0, 3)", x.list(0, 3), 5);
        check.refuses("list(0, most)", x.list(0, MOST), 5);
        check.refuses("list(0, -2)", x.list(0, -2), 1);
        check.refuses("list(3, -2)", x.list(3, -2), 1);
        check.refuses("list(3, 0)", x.list(3, 0), 2);
        check.refuses("list(-1, 0)", x.list(-1, 0), 2);
        check.gives("a text without lists", check.load(TWO), 2);
        check.refuses("list(0, 0)", x.list(0, 0), 2);
    }

    private static void fits() {
        SieveHouse x = done();
        int[][] due = {{0, 0, 3, -1, 1}, {0, 1, 2, 2, 0}, {0, 2, 2, 27, 0}, {1, 0, 2, 9, 0}, {1, 1, 4, -1, 1}, {1, 2, 0, 15, 0}};
        for (int[] d : due) {
            String call = "fits(" + d[0] + ", " + d[1] + ")";
            check.gives(call + " 0", x.fits(d[0], d[1], 0), d[2]);
            if (d[3] == -1) check.refuses(call + " 1", x.fits(d[0], d[1], 1), 5);
            else check.gives(call + " 1", x.fits(d[0], d[1], 1), d[3]);
            check.gives(call + " 2", x.fits(d[0], d[1], 2), d[4]);
        }
        check.refuses("fits(0, 0, 3)", x.fits(0, 0, 3), 1);
        check.refuses("fits(2, 0, -1)", x.fits(2, 0, -1), 1);
        check.refuses("fits(2, 0, 0)", x.fits(2, 0, 0), 2);
        check.refuses("fits(0, 3, 0)", x.fits(0, 3, 0), 2);
        check.refuses("fits(0, -1, 0)", x.fits(0, -1, 0), 2);
        check.begin("sieve a from 1 by 1 many 9 flavius; list b 10; list c 0 1;");
        check.gives("one number that is not in", check.house.fits(0, 0, 2), 0);
        check.gives("the first one is not in", check.house.fits(0, 1, 2), 0);
        check.refuses("one number that is not in", check.house.guess(0), 5);
        check.begin("sieve a from 1 by 1 many 9 flavius; list b 2 4; list c 9; list d 8 9 10;");
        check.gives("all are in", check.house.fits(0, 0, 0), 2);
        check.gives("but not next to each other", check.house.fits(0, 0, 2), 0);
        check.house.strike(0, 3);
        check.gives("now they are", check.house.fits(0, 0, 2), 1);
        check.gives("one number", check.house.fits(0, 1, 2), 1);
        check.gives("behind the row's end", check.house.fits(0, 2, 2), 0);
    }

    private static void guess() {
        check.begin(TWO + "list c 7 9 13; list d 2 3 5 7; list e 3 5;");
        SieveHouse x = check.house;
        check.gives("guess(0)", x.guess(0), 0);
        check.gives("guess(1)", x.guess(1), 1);
        check.gives("in the first one's row, but not when it is done", x.fits(0, 2, 2), 1);
        check.gives("guess(2)", x.guess(2), 1);
        check.gives("no round is done by it", x.sieve(0, 5), 0);
        check.gives("no round is done by it", x.sieve(1, 5), 0);
        check.refuses("guess(3)", x.guess(3), 2);
        check.refuses("guess(-1)", x.guess(-1), 2);
        check.begin(TWO + "list c 1 7; list d 1;");
        check.refuses("not next to each other", check.house.guess(0), 5);
        check.gives("of several the first", check.house.guess(1), 0);
        check.begin("list c 1 7;");
        check.refuses("no sieve at all", check.house.guess(0), 5);
    }

    private static void meets() {
        SieveHouse x = done();
        int[][] due = {{4, 0, 2}, {2, 0, 1}, {10, 0, 3}, {-5, 0, 0}, {56, 0, 1}, {2, 1, 6}, {-2, 1, 4}, {0, 1, 4}, {36, 1, 1}, {-18, 1, 1}};
        for (int[] d : due) check.gives("meets(0, 1, " + d[0] + ", " + d[1] + ")", x.meets(0, 1, d[0], d[1]), d[2]);
        for (int what = 0; what < 2; what++) {
            check.gives("meets(0, 1, most, " + what + ")", x.meets(0, 1, MOST, what), 0);
            check.gives("meets(0, 1, least, " + what + ")", x.meets(0, 1, LEAST, what), 0);
        }
        check.refuses("meets(0, 1, 4, 2)", x.meets(0, 1, 4, 2), 1);
        check.refuses("meets(2, 1, 4, -1)", x.meets(2, 1, 4, -1), 1);
        check.refuses("meets(2, 1, 4, 0)", x.meets(2, 1, 4, 0), 2);
        check.refuses("meets(0, 2, 4, 0)", x.meets(0, 2, 4, 0), 2);
    }

    private static void apart() {
        SieveHouse x = done();
        check.gives("apart(0, 1, 0)", x.apart(0, 1, 0), 2);
        check.gives("apart(0, 1, 1)", x.apart(0, 1, 1), 1);
        check.refuses("alike", x.apart(0, 0, 0), 5);
        check.gives("alike", x.apart(0, 0, 1), 11);
        x.make(1, 1, 2, 3);
        x.make(1, 1, 2, 5);
        check.gives("one has none", x.apart(2, 3, 0), 4);
        check.gives("one has none", x.apart(3, 2, 0), 4);
        check.gives("like ones", x.apart(3, 2, 1), 3);
        check.gives("longer by one", x.longer(2, 4), 4);
        check.gives("one has none", x.apart(2, 3, 0), 5);
        check.gives("one has none", x.apart(3, 2, 0), 5);
        x.strike(3, 1);
        check.gives("none is like", x.apart(3, 2, 1), 0);
        check.gives("the first", x.apart(3, 2, 0), 1);
        check.refuses("apart(0, 1, 2)", x.apart(0, 1, 2), 1);
        check.refuses("apart(4, 1, -1)", x.apart(4, 1, -1), 1);
        check.refuses("apart(4, 1, 0)", x.apart(4, 1, 0), 2);
        check.refuses("apart(0, 4, 0)", x.apart(0, 4, 0), 2);
    }

    private static void print() {
        SieveHouse x = done();
        check.prints(0, "1 3 7 9 13 15 21 25 31 33 37");
        check.prints(1, "1-3 5 7 11 13 17 19");
        check.refuses("print(2)", x.print(2), 2);
        check.refuses("print(-1)", x.print(-1), 2);
        check.begin("sieve a from 0 by 1 many 12 flavius;");
        x = check.house;
        check.prints(0, "0-11");
        x.strike(0, 3);
        x.strike(0, 6);
        x.strike(0, 10);
        check.prints(0, "0-2 4 5 7-9 11");
        check.begin("sieve a from 8 by 1 many 2 flavius;");
        check.prints(0, "8 9");
        check.house.strike(0, 8);
        check.prints(0, "9");
        check.house = new SieveHouse();
        check.house.make(3, 999, 99, 600);
        check.prints(0, "999-60300");
    }

    private static void out() {
        check.begin("sieve a from 9 by 1 many 2 flavius;");
        SieveHouse x = check.house;
        check.refuses("none yet", x.out(0), 5);
        check.refuses("out(-1)", x.out(-1), 1);
        check.gives("print", x.print(0), 4);
        x.strike(0, 9);
        check.refuses("print(1)", x.print(1), 2);
        int[] due = {57, 32, 49, 48};
        for (int i = 0; i < 4; i++) check.gives("the row as it was printed", x.out(i), due[i]);
        check.refuses("out(4)", x.out(4), 5);
        check.refuses("out(most)", x.out(MOST), 5);
        check.refuses("out(least)", x.out(LEAST), 1);
        check.gives("print anew", x.print(0), 2);
        check.gives("out(1)", x.out(1), 48);
        check.refuses("out(2)", x.out(2), 5);
    }

    private static void longestOut() {
        check.begin("sieve a from 999 by 99 many 600 fixed 3 rounds 1;");
        SieveHouse x = check.house;
        x.round(0);
        StringBuilder due = new StringBuilder();
        for (int i = 0; i < 600; i++) {
            if (i % 3 != 2) due.append(due.length() == 0 ? "" : " ").append(999 + 99 * i);
        }
        check.gives("print", x.print(0), due.length());
        int unlike = 0;
        for (int i = 0; i < Math.min(due.length(), 400); i++) if (x.out(i) != due.charAt(i)) unlike++;
        check.expect("the first bytes", unlike, 0);
        check.gives("the last byte", x.out(due.length() - 1), due.charAt(due.length() - 1));
        check.refuses("behind it", x.out(due.length()), 5);
    }
}
