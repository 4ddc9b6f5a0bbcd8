import java.lang.reflect.InvocationTargetException;
import java.lang.reflect.Method;
import java.lang.reflect.Modifier;
import java.nio.charset.StandardCharsets;
import java.util.ArrayList;
import java.util.HashMap;
import java.util.List;
import java.util.Map;

/**
 * Calls written as lines: "number 0 1 = 5" is answered 5 with STATUS 0, "number 0 0 ! 1" is refused with STATUS 1.
 * Behind each refused call the house must stand as one that was never asked it: both are asked all they can tell,
 * all that undo() brings back and what is on the tape. No house here gets more than 512 calls.
 */
final class Script {
    private static final int MOST_CALLS = 512;
    /** On the tape of every house that begin() made, so that a call that spoils the tape is seen. */
    private static final String ON_TAPE = "list kept 7;        ";
    /** What stands in a house whose load() is refused: two sieves, a list, three acts, a printed row. */
    private static final String STANDING = "sieve x from 1 by 2 many 9 lucky; sieve y from 3 by 1 many 5 told 2; list z 4 6;";

    private record Step(String name, int[] args) { }

    private final String about;
    private final Map<String, Method> methods = new HashMap<>();
    private final List<Step> steps = new ArrayList<>();
    private SieveHouse house = new SieveHouse();
    private String sentence = "";
    private int calls;
    private int looks;
    private int wrong;

    Script(String about) {
        this.about = about;
        for (Method m : SieveHouse.class.getDeclaredMethods()) {
            if (Modifier.isPublic(m.getModifiers())) methods.put(m.getName() + m.getParameterCount(), m);
        }
    }

    /** A new house, nothing on its tape. */
    void bare(String newSentence) {
        sentence = newSentence;
        house = new SieveHouse();
        steps.clear();
        calls = 0;
    }

    /** A new house with a text loaded, its first sieve printed, and some bytes on its tape. */
    void begin(String newSentence, String text) {
        bare(newSentence);
        loads(text);
        expect("the text is good", house.status(), 0);
        if (house.many(0) > 0) step("print", 0);
        feeds(ON_TAPE);
    }

    /** Feeds a text and loads all of it: what load() answered. */
    int loads(String text) {
        feeds(text);
        return step("load", text.length());
    }

    void feeds(String text) {
        byte[] bytes = text.getBytes(StandardCharsets.ISO_8859_1);
        for (int i = 0; i < bytes.length; i += 20) {
            step("feed", word(bytes, i), word(bytes, i + 4), word(bytes, i + 8), word(bytes, i + 12), word(bytes, i + 16));
        }
    }

    private static int word(byte[] bytes, int from) {
        int word = 0;
        for (int i = from; i < from + 4; i++) word = word << 8 | (i < bytes.length ? bytes[i] & 255 : 32);
        return word;
    }

    void asks(String... lines) {
        for (String line : lines) ask(line);
        expect("calls of one house, at most", Math.max(calls, MOST_CALLS), MOST_CALLS);
    }

    private void ask(String line) {
        boolean refused = line.contains(" ! ");
        String[] sides = line.split(refused ? " ! " : " = ");
        String[] call = sides[0].split(" ");
        int[] args = new int[call.length - 1];
        for (int i = 0; i < args.length; i++) args[i] = number(call[i + 1]);
        int due = number(sides[1]);
        if (refused) {
            refuse(line, new Step(call[0], args), due);
            return;
        }
        int ahead = house.status();
        boolean hasStatus = !List.of("status", "feed", "fault").contains(call[0]);
        expect(line, step(call[0], args), due);
        expect("status behind " + line, house.status(), hasStatus ? 0 : ahead);
    }

    private static int number(String word) {
        if (word.equals("most")) return Integer.MAX_VALUE;
        if (word.equals("least")) return Integer.MIN_VALUE;
        return Integer.parseInt(word);
    }

    /** The call is asked of a house of its own, beside one that is spared it, and then of the house that goes on. */
    private void refuse(String line, Step step, int status) {
        SieveHouse asked = replay();
        SieveHouse spared = replay();
        expect(line, call(asked, step), SieveHouse.NONE);
        expect("status behind " + line, asked.status(), status);
        boolean tapeAndFaultToo = status != 9;
        List<Integer> due = new Marks(spared, tapeAndFaultToo).all;
        List<Integer> got = new Marks(asked, tapeAndFaultToo).all;
        looks++;
        if (!got.equals(due)) {
            wrong++;
            System.out.println(about + " (" + sentence + "): " + line + " changed " + due + " to " + got);
        }
        // a load() with 9 is refused too, but it leaves an empty tape and a FAULT
        if (status == 9) steps.add(step);
        calls++;
        expect(line + ", by the one that goes on", call(house, step), SieveHouse.NONE);
        expect("status behind " + line, house.status(), status);
    }

    /** A text that load() refuses: the fault and its place, the tape is empty, all else is as it was. */
    void faulty(String text, int kind, int place) {
        bare("a FAULT of <" + text + ">");
        loads(STANDING);
        step("round", 0);
        step("strike", 0, 1);
        step("all", 1);
        step("print", 0);
        feeds(text);
        refuse("load", new Step("load", new int[] {text.length()}), 9);
        expect("the fault's kind", house.fault(0), kind);
        expect("the fault's place", house.fault(1), place);
        asks("load 1 ! 1");
    }

    /** A text that load() takes: how many sieves and lists it tells. */
    void good(String text, int sieves, int lists) {
        bare("<" + text + ">");
        loads(STANDING);
        step("round", 0);
        expect("load", loads(text), sieves);
        asks("status = 0", "fault 0 = 0", "fault 1 = -1", "many 0 = " + sieves, "many 1 = 0", "many 2 = " + lists, "load 1 ! 1");
    }

    private SieveHouse replay() {
        SieveHouse x = new SieveHouse();
        for (Step step : steps) call(x, step);
        return x;
    }

    private int step(String name, int... args) {
        Step step = new Step(name, args);
        steps.add(step);
        calls++;
        return call(house, step);
    }

    private int call(SieveHouse x, Step step) {
        Object[] boxed = new Object[step.args.length];
        for (int i = 0; i < boxed.length; i++) boxed[i] = step.args[i];
        Method method = methods.get(step.name + boxed.length);
        if (method == null) throw new IllegalStateException("no such call: " + step.name + " of " + boxed.length);
        try {
            return (Integer) method.invoke(x, boxed);
        } catch (IllegalAccessException | InvocationTargetException e) {
            throw new IllegalStateException(step.name, e);
        }
    }

    private void expect(String what, int got, int due) {
        looks++;
        if (got == due) return;
        wrong++;
        System.out.println(about + " (" + sentence + "): " + what + ": got " + got + ", due is " + due);
    }

    /** The row of a sieve, as print() and out() tell it. */
    void prints(int s, String due) {
        expect("print " + s + " of " + due, step("print", s), due.length());
        StringBuilder got = new StringBuilder();
        for (int i = 0; i < due.length(); i++) got.append((char) step("out", i));
        looks++;
        if (!got.toString().equals(due)) {
            wrong++;
            System.out.println(about + " (" + sentence + "): printed <" + got + ">, due is <" + due + ">");
        }
        ask("out " + due.length() + " ! 5");
    }

    void end() {
        System.out.println(about + ": " + looks + " looks, " + wrong + " wrong");
        if (wrong > 0) System.exit(1);
    }
}
