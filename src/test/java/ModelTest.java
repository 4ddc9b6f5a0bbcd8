import java.lang.reflect.Method;
import java.util.ArrayList;
import java.util.List;

/** All promises: runs of calls, always the same ones, answered by the house and by the model. */
public final class ModelTest {
    private static final int RUNS = 1500;
    private static final int CALLS = 500;
    private static final String[] CALLS_OF_ONE = {
        "sieve w", "round", "round", "round", "round", "all", "told r w", "strike n", "strike n", "strike n", "longer m",
        "drop", "undo-", "undo-", "make-", "make-", "make-", "make-", "many-", "load-", "load-", "fault-", "status-",
        "number p", "rank n", "fate n w", "back r p", "ahead r p", "would p", "till p", "origin p", "gone k", "upTo n",
        "gap p", "gaps w", "gapsOf d", "record k", "pairs d w", "triples d e", "sums t", "misses c", "run w",
        "progression d w", "rests c k", "ring d k", "chain n w", "spread p w", "sketch p k", "balance p",
        "pattern d d d", "mirror w", "half", "usual", "both s w", "lead s w", "alike s", "through s k",
        "list- k", "fits l w", "guess-", "meets s t w", "meets s t w", "apart s w", "print", "out- p"};

    private static long seed;
    private static SieveHouse house;
    private static Model model;
    private static Method[] methods;
    private static List<String> log;
    private static int wrong;
    private static long answers;
    private static final long[] seen = new long[10];

    public static void main(String[] args) throws Exception {
        int runs = args.length > 0 ? Integer.parseInt(args[0]) : RUNS;
        long first = args.length > 1 ? Long.parseLong(args[1]) : 1;
        methods = SieveHouse.class.getDeclaredMethods();
        for (int run = 0; run < runs && wrong < 3; run++) oneRun(first + run);
        StringBuilder statuses = new StringBuilder();
        for (int i = 0; i < seen.length; i++) if (seen[i] > 0) statuses.append(' ').append(i).append(':').append(seen[i]);
        System.out.println("ModelTest: " + answers + " answers looked at, statuses" + statuses + ", " + wrong + " runs wrong");
        if (wrong > 0) System.exit(1);
    }

    private static int pick(int below) {
        seed = seed * 6364136223846793005L + 1442695040888963407L;
        return (int) Math.floorMod(seed >>> 33, (long) below);
    }

    private static void oneRun(long number) throws Exception {
        seed = number * 7919;
        pick(9);
        house = new SieveHouse();
        model = new Model();
        log = new ArrayList<>();
        if (pick(10) > 0 && !load()) return;
        int calls = 0;
        while (calls < CALLS) {
            if (!someCall()) {
                wrong++;
                System.out.println("run " + number + ":");
                for (String line : log.subList(Math.max(0, log.size() - 60), log.size())) System.out.println("  " + line);
                return;
            }
            calls++;
        }
    }

    private static boolean ask(String name, int... args) throws Exception {
        int due = model.call(name, args);
        Object[] boxed = new Object[args.length];
        for (int i = 0; i < args.length; i++) boxed[i] = args[i];
        int got = NONE_CALLED;
        for (Method m : methods) {
            if (m.getName().equals(name) && m.getParameterCount() == args.length
                    && java.lang.reflect.Modifier.isPublic(m.getModifiers())) got = (Integer) m.invoke(house, boxed);
        }
        answers++;
        seen[model.status]++;
        log.add(name + java.util.Arrays.toString(args) + " = " + got + " status " + house.status());
        if (got == due && house.status() == model.status) return true;
        log.add("due: " + due + " status " + model.status);
        return false;
    }

    private static final int NONE_CALLED = Integer.MIN_VALUE + 77;

    private static boolean someCall() throws Exception {
        String[] call = CALLS_OF_ONE[pick(CALLS_OF_ONE.length)].split(" ");
        switch (call[0]) {
            case "undo-": return ask("undo");
            case "status-": return ask("status");
            case "many-": return ask("many", pick(5) - 1);
            case "fault-": return ask("fault", pick(4) - 1);
            case "guess-": return ask("guess", pick(5) - 1);
            case "out-": return ask("out", pick(3) == 0 ? pick(6) - 2 : pick(900));
            case "list-": return ask("list", pick(5) - 1, pick(13) - 2);
            case "make-": return ask("make", pick(6) - (pick(9) == 0 ? 1 : 0), pick(9) == 0 ? pick(1100) : pick(6), by(), size());
            case "load-": return pick(4) > 0 || load();
            default:
        }
        int s = pick(12) == 0 ? pick(7) - 1 : pick(3);
        int[] args = new int[call.length];
        args[0] = s;
        for (int i = 1; i < call.length; i++) args[i] = argument(call[i], call[0], s);
        if (call[0].equals("triples") && args[2] <= args[1] && pick(4) > 0) args[2] = args[1] + argument("d", "", s);
        return ask(call[0], args);
    }

    private static int by() {
        return pick(9) == 0 ? pick(102) : 1 + pick(3);
    }

    private static int size() {
        int which = pick(12);
        if (which == 0) return pick(5) == 0 ? 600 + pick(2) : pick(620);
        return which < 4 ? pick(9) : pick(90);
    }

    private static int argument(String what, String name, int s) {
        if (pick(60) == 0) return new int[] {Integer.MIN_VALUE, Integer.MAX_VALUE, -2, Integer.MAX_VALUE - 1}[pick(4)];
        List<Integer> row = model.rowOf(s);
        int size = row.size();
        switch (what) {
            case "w": return pick(20) == 0 ? pick(12) - 2 : pick(name.equals("sieve") ? 8 : name.equals("lead") ? 5 : name.equals("both") || name.equals("gaps") || name.equals("told") ? 4 : 2 + pick(2));
            case "r": return pick(7) - (pick(9) == 0 ? 1 : 0);
            case "s": return pick(12) == 0 ? pick(7) - 1 : pick(3);
            case "l": return pick(9) == 0 ? pick(6) - 1 : pick(2);
            case "m": return size();
            case "n": return size > 0 && pick(4) > 0 ? row.get(pick(size)) : pick(200) - 5;
            case "p": return pick(3) == 0 ? pick(9) - 1 : pick(size + 3);
            case "k": return pick(3) == 0 ? pick(6) - 2 : pick(size + 3) - 1;
            case "d": return pick(2) == 0 ? pick(8) - pick(2) : gapOf(row);
            case "e": return pick(30) + gapOf(row);
            case "t": return size > 0 && pick(5) > 0 ? row.get(pick(size)) + (pick(2) == 0 ? 1 : -1) * row.get(pick(size)) : pick(400) - 100;
            case "c": return pick(9) == 0 ? pick(1100) - 2 : 1 + pick(14);
            default: throw new IllegalStateException(what);
        }
    }

    private static int gapOf(List<Integer> row) {
        if (row.size() < 2) return 1;
        int p = pick(row.size() - 1);
        return row.get(Math.min(row.size() - 1, p + 1 + (pick(3) == 0 ? pick(4) : 0))) - row.get(p);
    }

    // ---- texts

    private static final String[] WORDS = {"sieve", "list", "from", "by", "many", "lucky", "flavius", "ludic", "prime",
        "fixed", "rounds", "told", ";", "a", "abcdefgh", "abcdefghi", "0", "1", "7", "9999", "10000", "A", "-", "\t", "\u00e9"};

    private static boolean load() throws Exception {
        List<String> tokens = new ArrayList<>();
        int lines = pick(6) == 0 ? pick(8) : 2 + pick(5);
        for (int i = 0; i < lines; i++) line(tokens, (char) ('a' + i));
        if (pick(12) == 0) {
            String[] rest = {"sieve", "list"};
            for (int i = 0; i < 5; i++) line(tokens, (char) ('m' + i), rest[pick(2)]);
        }
        int spoil = Math.max(0, pick(6) - 3);
        for (int i = 0; i < spoil && !tokens.isEmpty() && pick(2) == 0; i++) {
            int at = pick(tokens.size());
            String token = WORDS[pick(WORDS.length)];
            if (pick(3) == 0) tokens.remove(at);
            else if (pick(2) == 0) tokens.set(at, token);
            else tokens.add(at, token);
        }
        StringBuilder text = new StringBuilder();
        for (String token : tokens) {
            boolean glues = text.length() > 0 && kind(text.charAt(text.length() - 1)) == kind(token.charAt(0));
            if (pick(glues ? 300 : 3) > 0) text.append(pick(9) == 0 ? "\n" : " ");
            text.append(token);
        }
        String whole = text.length() > 600 ? text.substring(0, 600) : text.toString();
        log.add("<" + whole + ">");
        for (int i = 0; i < whole.length(); i += 20) {
            if (!ask("feed", word(whole, i), word(whole, i + 4), word(whole, i + 8), word(whole, i + 12), word(whole, i + 16))) return false;
        }
        if (pick(20) == 0 && !ask("load", pick(700) - 10)) return false;
        int n = whole.length() - (pick(30) == 0 ? pick(whole.length() + 1) : 0);
        return ask("load", n) && ask("fault", 0) && ask("fault", 1);
    }

    private static int kind(char c) {
        return Character.isLetter(c) ? 1 : Character.isDigit(c) ? 2 : 3;
    }

    private static int word(String text, int from) {
        int word = 0;
        for (int i = from; i < from + 4; i++) word = word << 8 | (i < text.length() ? text.charAt(i) : 32);
        return word;
    }

    private static void line(List<String> tokens, char name) {
        line(tokens, name, pick(3) == 0 ? "list" : "sieve");
    }

    private static void line(List<String> tokens, char name, String word) {
        add(tokens, word, pick(30) == 0 ? "a" : String.valueOf(name));
        if (word.equals("list")) {
            int n = pick(9);
            for (int many = 1 + pick(pick(6) == 0 ? 12 : 4); many > 0; many--) {
                add(tokens, String.valueOf(n));
                n += pick(60) == 0 ? 0 : 1 + pick(3);
            }
            add(tokens, ";");
            return;
        }
        add(tokens, "from", String.valueOf(pick(20) == 0 ? pick(1010) : pick(5)), "by", String.valueOf(by()), "many", String.valueOf(2 + size()));
        String law = WORDS[5 + pick(7)];
        if (law.equals("rounds")) law = "told";
        add(tokens, law);
        if (law.equals("fixed")) add(tokens, String.valueOf(pick(20) == 0 ? pick(110) : 2 + pick(5)), "rounds", String.valueOf(pick(9) == 0 ? pick(66) : 1 + pick(4)));
        if (law.equals("told")) for (int many = 1 + pick(pick(6) == 0 ? 14 : 5); many > 0; many--) add(tokens, String.valueOf(pick(25) == 0 ? pick(1010) : 2 + pick(9)));
        add(tokens, ";");
    }

    private static void add(List<String> tokens, String... more) {
        for (String token : more) tokens.add(token);
    }
}
