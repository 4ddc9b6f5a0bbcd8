import java.util.List;

/**
 * Promises 8 to 55 of what is small: every row that hands can leave of a few numbers, every two such rows side by
 * side, rounds of every law from small beginnings with each number struck by hand ahead of, between or behind them.
 */
public final class EveryRowTest {
    private static final int FLAVIUS = 1;
    private static final Twin twin = new Twin("EveryRowTest");

    public static void main(String[] args) {
        for (int from = 0; from <= 2; from++) {
            for (int by = 1; by <= 2; by++) everyRow(from, by, 8);
        }
        everyMirror(12);
        everyTwoRows(0, 1, 5, 1, 1, 5);
        everyTwoRows(1, 2, 4, 0, 1, 5);
        for (int many = 2; many <= 11; many++) everyRounds(many);
        everyTold();
        twin.end();
    }

    private static void strikeAllBut(int s, int from, int by, int many, int left) {
        for (int i = 0; i < many; i++) {
            if ((left >> i & 1) == 0) twin.act("strike", s, from + i * by);
        }
    }

    // ---- gaps, pairs

    private static void everyRow(int from, int by, int many) {
        for (int left = 1; left < 1 << many; left++) {
            twin.begin();
            twin.act("make", FLAVIUS, from, by, many);
            strikeAllBut(0, from, by, many, left);
            int last = from + (many - 1) * by;
            places(many, last);
            gaps(many, by);
            sums(many, last, by);
            ringAndChain(many, last);
        }
    }

    private static void places(int many, int last) {
        for (int p = 1; p <= many + 1; p++) {
            twin.ask("number", 0, p);
            twin.ask("gap", 0, p);
            twin.ask("balance", 0, p);
        }
        for (int n = -1; n <= last + 1; n++) {
            twin.ask("rank", 0, n);
            twin.ask("upTo", 0, n);
        }
        for (int k = -1; k <= many; k++) twin.ask("gone", 0, k);
        int bytes = twin.act("print", 0);
        for (int i = 0; i <= bytes; i++) twin.ask("out", i);
        twin.ask("half", 0);
    }

    private static void gaps(int many, int by) {
        for (int what = 0; what <= 3; what++) twin.ask("gaps", 0, what);
        for (int d = 0; d <= many; d++) twin.ask("gapsOf", 0, d * by);
        for (int k = -1; k <= 4; k++) twin.ask("record", 0, k);
        for (int what = 0; what <= 1; what++) {
            twin.ask("run", 0, what);
            twin.ask("mirror", 0, what);
            for (int w = 2; w <= many + 1; w++) twin.ask("spread", 0, w, what);
        }
        twin.ask("usual", 0);
        for (int d = 1; d <= 3; d++) {
            for (int e = 1; e <= 3; e++) {
                for (int f = 0; f <= 2; f++) twin.ask("pattern", 0, d * by, e * by, f * by);
            }
        }
        for (int w = 1; w <= 4; w++) {
            for (int k = -1; k <= many / w + 1; k++) twin.ask("sketch", 0, w, k);
        }
    }

    private static void sums(int many, int last, int by) {
        for (int d = 1; d < many; d++) {
            for (int what = 0; what <= 2; what++) twin.ask("pairs", 0, d * by, what);
            for (int what = 0; what <= 1; what++) twin.ask("progression", 0, d * by, what);
            for (int e = d + 1; e < many; e++) twin.ask("triples", 0, d * by, e * by);
        }
        for (int n = 0; n <= 2 * last + 1; n++) twin.ask("sums", 0, n);
        for (int m = 1; m <= 5; m++) {
            twin.ask("misses", 0, m);
            for (int c = -1; c < m; c++) twin.ask("rests", 0, m, c);
        }
    }

    private static void ringAndChain(int many, int last) {
        for (int g = 1; g <= many + 1; g++) {
            for (int k = -1; k <= many; k += 1 + g % 3) twin.ask("ring", 0, g, k);
        }
        for (int n = 0; n <= last; n++) {
            for (int what = 0; what <= 2; what++) twin.ask("chain", 0, n, what);
        }
    }

    /** Mirrors of more gaps, one inside the other and one over the next. */
    private static void everyMirror(int many) {
        for (int left = 1; left < 1 << many; left++) {
            twin.begin();
            twin.act("make", FLAVIUS, 1, 1, many);
            strikeAllBut(0, 1, 1, many, left);
            for (int what = 0; what <= 1; what++) twin.ask("mirror", 0, what);
        }
    }

    // ---- sieves compared

    private static void everyTwoRows(int from, int by, int many, int otherFrom, int otherBy, int otherMany) {
        for (int left = 1; left < 1 << many; left++) {
            for (int otherLeft = 1; otherLeft < 1 << otherMany; otherLeft++) {
                twin.begin();
                twin.act("make", FLAVIUS, from, by, many);
                twin.act("make", FLAVIUS, otherFrom, otherBy, otherMany);
                strikeAllBut(0, from, by, many, left);
                strikeAllBut(1, otherFrom, otherBy, otherMany, otherLeft);
                compared(0, 1);
                compared(1, 0);
                compared(0, 0);
            }
        }
    }

    private static void compared(int s, int other) {
        for (int what = 0; what <= 4; what++) twin.ask("lead", s, other, what);
        for (int what = 0; what <= 3; what++) twin.ask("both", s, other, what);
        for (int what = 0; what <= 1; what++) {
            twin.ask("apart", s, other, what);
            for (int n = -8; n <= 14; n++) twin.ask("meets", s, other, n, what);
        }
        for (int k = -1; k <= 5; k++) twin.ask("through", s, other, k);
    }

    // ---- rounds

    private static final String[] LAWS = {"lucky", "flavius", "ludic", "prime", "fixed 2 rounds 3", "fixed 3 rounds 2",
        "told 4 2 3", "told 9 2"};

    /** Of every law: by hand the i-th number goes ahead of the round whose number is `when`. */
    private static void everyRounds(int many) {
        for (String law : LAWS) {
            for (int from = 0; from <= 3; from++) {
                for (int i = -1; i < many; i++) {
                    int by = 1 + (from + many) % 3;
                    for (int when = 1; when <= (i < 0 ? 1 : 4); when++) roundsWithHand(law, from, by, many, i, when);
                }
            }
        }
    }

    private static void roundsWithHand(String law, int from, int by, int many, int i, int when) {
        twin.begin();
        twin.load("sieve a from " + from + " by " + by + " many " + many + " " + law + ";list b " + (from + 1) + " " + (from + 2) + ";");
        for (int r = 1; r <= 5; r++) {
            if (r == when && i >= 0) twin.act("strike", 0, from + i * by);
            twin.ask("sieve", 0, 6);
            for (int n = 1; n <= many; n += 3) twin.ask("till", 0, n);
            for (int p = 1; p <= many; p += 2) twin.ask("would", 0, p);
            twin.act("round", 0);
        }
        past(from, by, many);
        twin.ask("guess", 0);
        for (int what = 0; what <= 2; what++) twin.ask("fits", 0, 0, what);
        twin.act("longer", 0, many + 3);
        twin.ask("sieve", 0, 5);
        twin.act("undo");
        past(from, by, 3);
    }

    private static void past(int from, int by, int places) {
        for (int what = 3; what <= 7; what++) twin.ask("sieve", 0, what);
        for (int r = 1; r <= 5; r++) {
            for (int what = 0; what <= 3; what++) twin.ask("told", 0, r, what);
            for (int p = 1; p <= places + 1; p++) {
                twin.ask("back", 0, r, p);
                twin.ask("ahead", 0, r, p);
            }
        }
        for (int p = 1; p <= places + 1; p++) twin.ask("origin", 0, p);
        for (int i = 0; i < places; i++) {
            for (int what = 0; what <= 1; what++) twin.ask("fate", 0, from + i * by, what);
        }
        List<Integer> row = twin.row(0);
        for (int n : row) twin.ask("rank", 0, n);
    }

    /** Every two sieves told two gaps each: up to which round they are alike. */
    private static void everyTold() {
        for (int gaps = 0; gaps < 81; gaps++) {
            twin.begin();
            String one = (2 + gaps % 3) + " " + (2 + gaps / 3 % 3);
            String two = (2 + gaps / 9 % 3) + " " + (2 + gaps / 27);
            twin.load("sieve a from 1 by 1 many 9 told " + one + ";sieve b from 4 by 3 many 7 told " + two + ";");
            for (int r = 0; r < 3; r++) {
                for (int s = 0; s <= 1; s++) {
                    twin.ask("alike", 0, 1);
                    twin.ask("alike", 1, 0);
                    twin.act("round", s);
                }
            }
            twin.ask("alike", 0, 1);
            twin.ask("alike", 0, 0);
        }
    }
}
