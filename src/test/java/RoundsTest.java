/** Promises 8 to 15 and the terms' paragraph 2: the laws, rounds, acts and their undoing. */
public final class RoundsTest {
    private static final Check check = new Check("RoundsTest");

    public static void main(String[] args) {
        laws();
        ends();
        roundAndAll();
        told();
        strike();
        longer();
        make();
        drop();
        undo();
        undoKeepsEight();
        check.end();
    }

    private static void law(String law, int rounds, String row) {
        check.begin("sieve a " + law + ";");
        check.gives("all of " + law, check.house.all(0), rounds);
        check.prints(0, row);
        check.gives("done " + law, check.house.sieve(0, 6), 1);
        check.gives("rounds of " + law, check.house.sieve(0, 5), rounds);
    }

    private static void laws() {
        law("from 1 by 2 many 20 lucky", 3, "1 3 7 9 13 15 21 25 31 33 37");
        law("from 1 by 1 many 20 flavius", 4, "1 3 7 13 19");
        law("from 1 by 1 many 30 ludic", 3, "1-3 5 7 11 13 17 23 25 29");
        law("from 1 by 1 many 30 prime", 3, "1-3 5 7 11 13 17 19 23 29");
        law("from 0 by 1 many 12 fixed 3 rounds 2", 2, "0 1 4 6 9 10");
        law("from 0 by 1 many 12 told 4 2 9", 3, "0 2 5 8 10");
    }

    /** Sieves that are done from the first on, and some that are not. */
    private static void ends() {
        String[] done = {"from 0 by 1 many 9 lucky", "from 0 by 1 many 9 ludic", "from 0 by 1 many 9 prime",
            "from 5 by 1 many 5 lucky", "from 1 by 1 many 3 ludic", "from 5 by 1 many 7 prime"};
        for (String law : done) {
            check.begin("sieve a " + law + ";");
            check.gives("done: " + law, check.house.sieve(0, 6), 1);
            check.refuses("round: " + law, check.house.round(0), 5);
            check.refuses("all: " + law, check.house.all(0), 5);
            check.gives("would: " + law, check.house.would(0, 2), check.house.number(0, 2));
        }
        check.begin("sieve a from 4 by 1 many 9 prime;");
        check.gives("10 by hand", check.house.strike(0, 10), 7);
        check.refuses("done, as 5 strikes nothing, though 6 would strike 12", check.house.round(0), 5);
        check.refuses("till", check.house.till(0, 7), 5);
        check.gives("would", check.house.would(0, 8), 12);
        String[] open = {"from 0 by 2 many 9 lucky", "from 0 by 1 many 9 flavius", "from 0 by 2 many 4 ludic",
            "from 5 by 1 many 8 prime", "from 0 by 1 many 2 flavius", "from 5 by 1 many 2 fixed 99 rounds 1",
            "from 5 by 1 many 2 told 999", "from 5 by 1 many 6 lucky"};
        for (String law : open) {
            check.begin("sieve a " + law + ";");
            check.gives("open: " + law, check.house.sieve(0, 6), 0);
        }
    }

    private static void roundAndAll() {
        check.begin("sieve a from 1 by 1 many 20 flavius; sieve b from 1 by 1 many 5 fixed 9 rounds 3;");
        SieveHouse x = check.house;
        check.gives("round", x.round(0), 10);
        check.gives("round", x.round(0), 3);
        check.prints(0, "1 3 7 9 13 15 19");
        check.gives("all", x.all(0), 2);
        check.refuses("round", x.round(0), 5);
        check.refuses("all", x.all(0), 5);
        check.gives("a round that strikes nothing", x.round(1), 0);
        check.gives("all", x.all(1), 2);
        check.gives("five are left", x.sieve(1, 4), 5);
        check.refuses("round(2)", x.round(2), 2);
        check.refuses("round(-1)", x.round(-1), 2);
        check.refuses("all(2)", x.all(2), 2);
        check.refuses("all(-1)", x.all(-1), 2);
        check.begin("sieve a from 1 by 2 many 20 lucky;");
        check.gives("strike 3, so that 5 tells the gap", check.house.strike(0, 3), 2);
        check.gives("round", check.house.round(0), 3);
        check.gives("its gap", check.house.told(0, 1, 0), 5);
    }

    private static void told() {
        check.begin("sieve a from 1 by 1 many 20 told 3 99 2;");
        SieveHouse x = check.house;
        check.refuses("no round yet", x.told(0, 1, 0), 5);
        check.gives("round", x.round(0), 6);
        check.gives("round", x.round(0), 0);
        check.gives("strike", x.strike(0, 1), 1);
        check.gives("round", x.round(0), 6);
        int[][] due = {{3, 6, 3, 14}, {99, 0, -1, 14}, {2, 6, 4, 7}};
        for (int r = 1; r <= 3; r++) {
            for (int what = 0; what < 4; what++) {
                if (due[r - 1][what] == -1) check.refuses("told(0, " + r + ", 2)", x.told(0, r, what), 5);
                else check.gives("told(0, " + r + ", " + what + ")", x.told(0, r, what), due[r - 1][what]);
            }
        }
        check.refuses("told(0, 4, 0)", x.told(0, 4, 0), 5);
        check.refuses("told(0, 0, 0)", x.told(0, 0, 0), 1);
        check.refuses("told(1, -1, 0)", x.told(1, -1, 0), 1);
        check.refuses("told(0, 1, 4)", x.told(0, 1, 4), 1);
        check.refuses("told(0, 1, -1)", x.told(0, 1, -1), 1);
        check.refuses("told(1, 1, 0)", x.told(1, 1, 0), 2);
    }

    private static void strike() {
        check.begin("sieve a from 10 by 10 many 3 lucky;");
        SieveHouse x = check.house;
        check.refuses("strike(0, 15)", x.strike(0, 15), 5);
        check.refuses("strike(0, 0)", x.strike(0, 0), 5);
        check.refuses("strike(0, 40)", x.strike(0, 40), 5);
        check.refuses("strike(0, least int)", x.strike(0, Integer.MIN_VALUE), 5);
        check.refuses("strike(1, 10)", x.strike(1, 10), 2);
        check.gives("strike(0, 20)", x.strike(0, 20), 2);
        check.refuses("strike(0, 20)", x.strike(0, 20), 5);
        check.gives("strike(0, 30)", x.strike(0, 30), 2);
        check.refuses("the last one there is", x.strike(0, 10), 5);
        check.gives("by hand", x.sieve(0, 7), 2);
        check.gives("rounds", x.sieve(0, 5), 0);
        check.gives("acts", x.many(1), 2);
    }

    private static void longer() {
        check.begin("sieve a from 1 by 1 many 20 flavius; sieve b from 1 by 1 many 5 told 2 2;");
        SieveHouse x = check.house;
        check.gives("all", x.all(0), 4);
        check.gives("strike", x.strike(0, 7), 3);
        check.refuses("longer(0, 1)", x.longer(0, 1), 1);
        check.refuses("longer(0, 601)", x.longer(0, 601), 1);
        check.refuses("longer(2, 601)", x.longer(2, 601), 1);
        check.refuses("longer(2, 20)", x.longer(2, 20), 2);
        check.refuses("longer(0, 20)", x.longer(0, 20), 4);
        check.gives("longer(0, 30)", x.longer(0, 30), 7);
        check.prints(0, "1 3 7 13 19 25 27");
        check.gives("rounds", x.sieve(0, 5), 4);
        check.gives("by hand", x.sieve(0, 7), 0);
        check.gives("many", x.sieve(0, 3), 30);
        check.gives("not done", x.sieve(0, 6), 0);
        check.gives("shorter: as many rounds as can be", x.longer(0, 4), 2);
        check.gives("rounds", x.sieve(0, 5), 1);
        check.gives("longer of none done", x.longer(1, 600), 600);
        check.gives("the last number", x.number(1, 600), 600);
        check.gives("longer(1, 2)", x.longer(1, 2), 2);
    }

    private static void make() {
        check.house = new SieveHouse();
        SieveHouse x = check.house;
        check.refuses("kind 4", x.make(4, 1, 1, 5), 1);
        check.refuses("kind -1", x.make(-1, 1, 1, 5), 1);
        check.refuses("from -1", x.make(0, -1, 1, 5), 1);
        check.refuses("from 1000", x.make(0, 1000, 1, 5), 1);
        check.refuses("by 0", x.make(0, 1, 0, 5), 1);
        check.refuses("by 100", x.make(0, 1, 100, 5), 1);
        check.refuses("many 1", x.make(0, 1, 1, 1), 1);
        check.refuses("many 601", x.make(0, 1, 1, 601), 1);
        check.gives("make", x.make(3, 999, 99, 600), 0);
        check.gives("make", x.make(2, 0, 1, 2), 1);
        check.gives("make", x.make(1, 1, 1, 20), 2);
        check.gives("make", x.make(0, 1, 2, 10), 3);
        check.refuses("a fifth", x.make(0, 1, 2, 10), 3);
        check.refuses("a fifth that can't be", x.make(0, 1, 2, 1), 1);
        check.gives("the greatest number", x.number(0, 600), 60300);
        check.gives("kind", x.sieve(2, 0), 1);
        check.gives("all", x.all(3), 2);
        check.gives("acts", x.many(1), 5);
    }

    private static void drop() {
        check.begin("sieve a from 1 by 1 many 4 lucky;sieve b from 2 by 1 many 4 lucky;sieve c from 3 by 1 many 4 lucky; list d 1;");
        SieveHouse x = check.house;
        check.refuses("drop(3)", x.drop(3), 2);
        check.refuses("drop(-1)", x.drop(-1), 2);
        check.gives("drop(1)", x.drop(1), 2);
        check.gives("those behind come up", x.sieve(1, 1), 3);
        check.refuses("two are left", x.sieve(2, 1), 2);
        check.gives("drop(1)", x.drop(1), 1);
        check.gives("drop(0)", x.drop(0), 0);
        check.refuses("drop(0)", x.drop(0), 2);
        check.gives("the list stands", x.many(2), 1);
        check.gives("make", x.make(0, 7, 1, 9), 0);
        check.gives("undo", x.undo(), 3);
        check.gives("undo", x.undo(), 2);
        check.gives("undo", x.undo(), 1);
        check.gives("undo", x.undo(), 0);
        for (int s = 0; s < 3; s++) check.gives("from of " + s, x.sieve(s, 1), s + 1);
    }

    private static void undo() {
        check.begin("sieve a from 1 by 1 many 20 flavius;");
        SieveHouse x = check.house;
        check.refuses("undo", x.undo(), 5);
        x.round(0);
        x.strike(0, 9);
        x.all(0);
        x.longer(0, 9);
        x.make(0, 5, 5, 5);
        x.drop(0);
        check.gives("acts", x.many(1), 6);
        check.gives("kind", x.sieve(0, 0), 0);
        check.gives("undo drop", x.undo(), 5);
        check.gives("kind", x.sieve(0, 0), 1);
        check.gives("kind", x.sieve(1, 0), 0);
        check.gives("undo make", x.undo(), 4);
        check.gives("sieves", x.many(0), 1);
        check.gives("undo longer", x.undo(), 3);
        check.gives("many", x.sieve(0, 3), 20);
        check.gives("by hand", x.sieve(0, 7), 1);
        check.gives("fate", x.fate(0, 9, 0), 0);
        check.gives("undo all", x.undo(), 2);
        check.prints(0, "1 3 5 7 11 13 15 17 19");
        check.gives("undo strike", x.undo(), 1);
        check.prints(0, "1 3 5 7 9 11 13 15 17 19");
        check.gives("undo round", x.undo(), 0);
        check.prints(0, "1-20");
        check.refuses("no round", x.told(0, 1, 0), 5);
        check.refuses("undo", x.undo(), 5);
    }

    private static void undoKeepsEight() {
        check.begin("sieve a from 1 by 1 many 20 lucky;");
        SieveHouse x = check.house;
        for (int n = 1; n <= 11; n++) {
            check.gives("strike", x.strike(0, n), 1);
            check.gives("acts", x.many(1), Math.min(n, 8));
        }
        check.refuses("a call that is refused is no act", x.strike(0, 1), 5);
        check.gives("acts", x.many(1), 8);
        for (int left = 7; left >= 0; left--) check.gives("undo", x.undo(), left);
        check.refuses("undo", x.undo(), 5);
        check.prints(0, "4-20");
        undoUnlikeActs();
        gapsComeBack();
        check.begin("sieve a from 4 by 1 many 17 lucky;");
        x = check.house;
        check.gives("strike anew", x.strike(0, 5), 2);
        check.gives("undo", x.undo(), 0);
        check.gives("number", x.number(0, 2), 5);
    }

    /** Twelve acts of all kinds, of which the last eight go back one by one. */
    private static void undoUnlikeActs() {
        check.begin("sieve a from 1 by 1 many 9 flavius; sieve b from 2 by 1 many 9 flavius;");
        SieveHouse x = check.house;
        x.strike(0, 1);
        x.strike(1, 2);
        x.make(0, 3, 3, 3);
        x.drop(0);
        check.gives("1: make", x.make(1, 4, 1, 9), 2);
        check.gives("2: make", x.make(1, 5, 1, 9), 3);
        check.gives("3: drop of four", x.drop(0), 3);
        check.gives("4: strike", x.strike(1, 8), 5);
        check.gives("5: drop", x.drop(0), 2);
        check.gives("6: round", x.round(1), 4);
        check.gives("7: make", x.make(2, 6, 1, 9), 2);
        check.gives("8: longer", x.longer(2, 12), 12);
        int[] sieves = {3, 2, 2, 3, 3, 4, 3, 2};
        int[][] froms = {{4, 5, 6}, {4, 5}, {4, 5}, {3, 4, 5}, {3, 4, 5}, {2, 3, 4, 5}, {2, 3, 4}, {2, 3}};
        int[][] sizes = {{8, 5, 9}, {8, 5}, {8, 9}, {3, 8, 9}, {3, 9, 9}, {8, 3, 9, 9}, {8, 3, 9}, {8, 3}};
        for (int i = 0; i < 8; i++) {
            check.gives("undo", x.undo(), 7 - i);
            check.gives("sieves", x.many(0), sieves[i]);
            for (int s = 0; s < sieves[i]; s++) {
                check.gives("from of " + s + " behind undo " + i, x.sieve(s, 1), froms[i][s]);
                check.gives("numbers of " + s + " behind undo " + i, x.sieve(s, 4), sizes[i][s]);
            }
        }
        check.refuses("a ninth", x.undo(), 5);
    }

    private static void gapsComeBack() {
        check.begin("sieve a from 1 by 2 many 20 lucky;");
        SieveHouse x = check.house;
        x.strike(0, 3);
        check.gives("round", x.round(0), 3);
        check.gives("longer", x.longer(0, 30), 20);
        check.gives("3 is the gap now", x.told(0, 1, 0), 3);
        check.gives("undo", x.undo(), 2);
        check.gives("5 was the gap", x.told(0, 1, 0), 5);
        check.gives("by hand", x.sieve(0, 7), 1);
    }
}
