import java.lang.reflect.InvocationTargetException;
import java.lang.reflect.Method;
import java.lang.reflect.Modifier;
import java.util.ArrayList;
import java.util.Arrays;
import java.util.HashMap;
import java.util.List;
import java.util.Map;

/** A house and the model side by side: each call is asked of both, and both must answer it alike. */
final class Twin {
    private static final int MOST_CALLS = 512;
    private static final Map<String, Method> METHODS = new HashMap<>();

    static {
        for (Method m : SieveHouse.class.getDeclaredMethods()) {
            if (Modifier.isPublic(m.getModifiers())) METHODS.put(m.getName(), m);
        }
    }

    private final String about;
    private final List<String> acts = new ArrayList<>();
    private SieveHouse house = new SieveHouse();
    private Model model = new Model();
    private int calls;
    private long answers;
    private int wrong;

    Twin(String about) {
        this.about = about;
    }

    void begin() {
        house = new SieveHouse();
        model = new Model();
        acts.clear();
        calls = 0;
    }

    void load(String text) {
        for (int i = 0; i < text.length(); i += 20) {
            int[] words = new int[5];
            for (int j = 0; j < 20; j++) words[j / 4] = words[j / 4] << 8 | (i + j < text.length() ? text.charAt(i + j) : 32);
            act("feed", words);
        }
        act("load", text.length());
    }

    /** A call that later answers hang on: it is told where one of them is wrong. */
    int act(String name, int... args) {
        acts.add(name + Arrays.toString(args));
        return ask(name, args);
    }

    int ask(String name, int... args) {
        int due = model.call(name, args);
        int got = call(name, args);
        answers++;
        calls++;
        if (calls > MOST_CALLS) throw new IllegalStateException("more calls than a house has: " + acts);
        if (got == due && house.status() == model.status) return got;
        wrong++;
        if (wrong < 20) {
            System.out.println(about + ": " + acts + " then " + name + Arrays.toString(args) + " answered " + got + " status "
                    + house.status() + ", due is " + due + " status " + model.status);
        }
        return got;
    }

    private int call(String name, int[] args) {
        Object[] boxed = new Object[args.length];
        for (int i = 0; i < args.length; i++) boxed[i] = args[i];
        try {
            return (Integer) METHODS.get(name).invoke(house, boxed);
        } catch (IllegalAccessException | InvocationTargetException e) {
            throw new IllegalStateException(acts + " then " + name + Arrays.toString(args), e);
        }
    }

    List<Integer> row(int s) {
        return new ArrayList<>(model.rowOf(s));
    }

    void end() {
        System.out.println(about + ": " + answers + " answers looked at, " + wrong + " wrong");
        if (wrong > 0) System.exit(1);
    }
}
