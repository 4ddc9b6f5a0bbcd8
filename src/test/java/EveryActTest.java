/**
 * Promises 6 to 15: every row of five acts out of some that meet each other, and all that undo() then brings back,
 * step by step; then rows of more acts than are kept.
 */
public final class EveryActTest {
    private static final int LONGEST = 5;
    private static final String TEXT = "sieve a from 1 by 2 many 7 lucky; sieve b from 0 by 1 many 9 told 3 2; list c 1 3;";
    private static final Object[][] ACTS = {
        {"round", 0}, {"all", 1}, {"strike", 0, 3}, {"longer", 0, 5}, {"make", 3, 2, 1, 8}, {"drop", 0}, {"undo"}, {"load", 1}};
    private static final Twin twin = new Twin("EveryActTest");

    public static void main(String[] args) {
        int rows = 1;
        for (int i = 0; i < LONGEST; i++) rows *= ACTS.length;
        for (int row = 0; row < rows; row++) {
            begin();
            for (int i = 0, rest = row; i < LONGEST; i++, rest /= ACTS.length) act(rest % ACTS.length);
            look();
            undoAll();
        }
        for (int first = 0; first < ACTS.length; first++) {
            for (int step = 1; step < ACTS.length; step++) manyActs(first, step);
        }
        loads();
        twin.end();
    }

    private static void begin() {
        twin.begin();
        twin.load(TEXT);
        twin.act("feed", '?' << 24, 0, 0, 0, 0);
    }

    private static void act(int which) {
        Object[] act = ACTS[which];
        int[] args = new int[act.length - 1];
        for (int i = 0; i < args.length; i++) args[i] = (Integer) act[i + 1];
        twin.act((String) act[0], args);
    }

    private static void look() {
        twin.ask("fault", 0);
        int sieves = twin.ask("many", 0);
        twin.ask("many", 1);
        twin.ask("list", 0, -1);
        for (int s = 0; s < sieves; s++) {
            for (int what = 0; what <= 7; what++) twin.ask("sieve", s, what);
            for (int p = 1; p <= 9; p += 2) twin.ask("number", s, p);
            twin.ask("gone", s, 0);
            twin.ask("told", s, 1, 0);
            twin.ask("told", s, 1, 3);
        }
    }

    private static void undoAll() {
        for (int i = 0; i < 4 && twin.act("undo") != -1; i++) look();
        for (int i = 0; i < 9 && twin.act("undo") != -1; i++) twin.ask("many", 0);
    }

    /** No undo and no load among them. */
    private static void manyActs(int first, int step) {
        begin();
        for (int i = 0; i < 12; i++) act((first + i * step) % 6);
        twin.ask("many", 1);
        look();
        undoAll();
        look();
    }

    /** load() forgets the acts, if it takes the text. */
    private static void loads() {
        String[] texts = {"sieve z from 3 by 3 many 4 ludic; list y 4;", "", TEXT + TEXT};
        for (String text : texts) {
            twin.begin();
            twin.load(TEXT);
            for (int i = 0; i < 6; i++) act(i);
            twin.load(text);
            look();
            act(4);
            undoAll();
            look();
        }
    }
}
