import java.lang.reflect.Method;
import java.lang.reflect.Modifier;
import java.util.Arrays;

/** All promises: every call with every mix of numbers at the edges, answered by the house and by the model. */
public final class EdgesTest {
    private static final int[] EDGES = {Integer.MIN_VALUE, -2, -1, 0, 1, 2, 3, 600, 601, Integer.MAX_VALUE};
    private static final String[] TEXTS = {
        "sieve a from 1 by 2 many 20 lucky; sieve b from 0 by 1 many 30 ludic; sieve c from 2 by 3 many 2 told 2 3;"
            + "list d 1 3; list e 0 1 2; list f 9999;",
        "sieve a from 999 by 99 many 600 fixed 2 rounds 60; sieve b from 0 by 1 many 600 flavius; list c 0;",
        ""};
    private static SieveHouse house;
    private static Model model;
    private static int answers;
    private static int wrong;

    public static void main(String[] args) throws Exception {
        for (String text : TEXTS) {
            for (Method method : SieveHouse.class.getDeclaredMethods()) {
                if (!Modifier.isPublic(method.getModifiers()) || method.getName().equals("feed")) continue;
                begin(text);
                everyMix(method, new int[method.getParameterCount()], 0);
            }
        }
        System.out.println("EdgesTest: " + answers + " answers looked at, " + wrong + " wrong");
        if (wrong > 0) System.exit(1);
    }

    private static void begin(String text) throws Exception {
        house = new SieveHouse();
        model = new Model();
        for (int i = 0; i < text.length(); i += 20) {
            int[] words = new int[5];
            for (int j = 0; j < 20; j++) words[j / 4] = words[j / 4] << 8 | (i + j < text.length() ? text.charAt(i + j) : 32);
            house.feed(words[0], words[1], words[2], words[3], words[4]);
            model.call("feed", words);
        }
        expect("load", new int[] {text.length()}, house.load(text.length()));
        expect("round", new int[] {0}, house.round(0));
        expect("round", new int[] {1}, house.round(1));
        expect("print", new int[] {0}, house.print(0));
    }

    private static void everyMix(Method method, int[] args, int i) throws Exception {
        if (i < args.length) {
            for (int edge : EDGES) {
                args[i] = edge;
                everyMix(method, args, i + 1);
            }
            return;
        }
        Object[] boxed = new Object[args.length];
        for (int j = 0; j < args.length; j++) boxed[j] = args[j];
        expect(method.getName(), args, (Integer) method.invoke(house, boxed));
    }

    private static void expect(String name, int[] args, int got) {
        int due = model.call(name, args);
        answers++;
        if (got == due && house.status() == model.status) return;
        wrong++;
        if (wrong > 20) return;
        System.out.println("EdgesTest: " + name + Arrays.toString(args) + " answered " + got + " status " + house.status()
                + ", due is " + due + " status " + model.status);
    }
}
