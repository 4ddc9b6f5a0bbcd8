import java.io.IOException;
import java.lang.management.ManagementFactory;
import java.lang.reflect.Array;
import java.lang.reflect.Constructor;
import java.lang.reflect.Field;
import java.lang.reflect.Method;
import java.lang.reflect.Modifier;
import java.nio.file.Files;
import java.nio.file.Path;
import java.util.ArrayList;
import java.util.Collections;
import java.util.IdentityHashMap;
import java.util.List;
import java.util.Set;
import java.util.TreeSet;
import java.util.regex.Matcher;
import java.util.regex.Pattern;

/** The document's face, the rules of LANGUAGE.md that can be looked up in the source, and the room that calls take. */
public final class FormTest {
    private static final Path SOURCE = Path.of("src/main/java/SieveHouse.java");
    private static final Path DOCUMENT = Path.of("../shared/DOC.md");
    private static int wrong;
    private static int looks;

    public static void main(String[] args) throws Exception {
        face();
        insideClasses();
        String source = Files.readString(SOURCE);
        words(withoutTexts(source));
        lengths(source);
        signs(source);
        room();
        roomOfNewObject();
        System.out.println("FormTest: " + looks + " looks, " + wrong + " wrong");
        if (wrong > 0) System.exit(1);
    }

    private static void holds(String what, boolean so) {
        looks++;
        if (so) return;
        wrong++;
        System.out.println("FormTest: " + what);
    }

    /** Every line of the document's face is there, and nothing else is to be seen from outside. */
    private static void face() throws IOException {
        TreeSet<String> due = new TreeSet<>();
        for (String line : Files.readAllLines(DOCUMENT)) {
            String text = line.trim().replaceAll(" (\\w+)([,)])", "$2");
            if (line.startsWith("    public ")) due.add(text.replace(", ", ",").replaceAll("[;{]$", "").trim());
        }
        TreeSet<String> there = new TreeSet<>();
        Class<?> c = SieveHouse.class;
        for (Field f : c.getDeclaredFields()) {
            if (!Modifier.isPrivate(f.getModifiers())) there.add("public static final int " + f.getName() + " = -1");
        }
        for (Constructor<?> k : c.getDeclaredConstructors()) {
            if (!Modifier.isPrivate(k.getModifiers())) there.add("public SieveHouse(" + types(k.getParameterTypes()) + ")");
        }
        List<String> hidden = new ArrayList<>();
        TreeSet<String> open = new TreeSet<>();
        for (Method m : c.getDeclaredMethods()) {
            if (Modifier.isPrivate(m.getModifiers())) {
                hidden.add(m.getName());
                continue;
            }
            open.add(m.getName());
            there.add(Modifier.toString(m.getModifiers()) + " " + m.getReturnType() + " " + m.getName() + "(" + types(m.getParameterTypes()) + ")");
        }
        holds("the face is " + there + ", due is " + due, there.equals(due) && due.size() == 57);
        holds("SieveHouse is public and final", Modifier.isPublic(c.getModifiers()) && Modifier.isFinal(c.getModifiers()));
        for (Class<?> inside : c.getDeclaredClasses()) {
            for (Method m : inside.getDeclaredMethods()) hidden.add(m.getName());
        }
        for (String name : hidden) holds("a private method bears the public name " + name, !open.contains(name));
    }

    private static String types(Class<?>[] types) {
        StringBuilder text = new StringBuilder();
        for (Class<?> t : types) text.append(text.length() == 0 ? "" : ",").append(t);
        return text.toString();
    }

    private static void insideClasses() {
        Class<?>[] inside = SieveHouse.class.getDeclaredClasses();
        holds("at most twelve classes", inside.length < 12);
        for (Class<?> c : inside) {
            int m = c.getModifiers();
            holds(c + " is static, and neither public nor protected",
                    Modifier.isStatic(m) && !Modifier.isPublic(m) && !Modifier.isProtected(m));
            int fields = 0;
            for (Field f : c.getDeclaredFields()) {
                if (!Modifier.isStatic(f.getModifiers())) fields++;
                holds(f + " is final, if static", !Modifier.isStatic(f.getModifiers()) || Modifier.isFinal(f.getModifiers()));
            }
            holds(c + " has at most twenty fields", fields <= 20);
        }
    }

    private static String withoutTexts(String source) {
        return source.replaceAll("(?s)/\\*.*?\\*/", " ").replaceAll("//.*", " ")
                .replaceAll("\"[^\"\n]*\"", "\"\"").replaceAll("'.'", "''");
    }

    private static void words(String source) {
        String[] not = {"throw", "throws", "try", "catch", "finally", "synchronized", "assert", "import", "package", "instanceof",
            "volatile", "transient", "native", "protected", "System", "Object", "hashCode", "toString", "var", "float", "double",
            "Thread", "Random", "yield", "Exact", "this", "super"};
        for (String word : not) holds("the word " + word, !Pattern.compile("\\b" + word + "\\b").matcher(source).find());
        holds("no lambda, no method reference", !source.contains("->") && !source.contains("::"));
        holds("no annotation", !source.contains("@"));
        Matcher dots = Pattern.compile("\\b([A-Z][a-z]\\w*)\\.(\\w+)").matcher(source);
        while (dots.find()) {
            String from = dots.group(1);
            String library = from + "." + dots.group(2);
            boolean own = List.of("Past", "Spacing", "Additive", "Duel", "Shelf", "Sieve").contains(from);
            holds("of the library " + library, own || List.of("Math.max", "Math.min", "Integer.compare").contains(library));
        }
        // what is made is made by constructors alone: fields with their first values, and loops over them
        Matcher made = Pattern.compile("\\n( *)([^\\n]*\\bnew\\b[^\\n]*)").matcher(source);
        while (made.find()) {
            String line = made.group(2);
            boolean field = line.startsWith("final ");
            boolean inConstructor = line.matches("(reader|shelf|printer|trial|scratch) = new .*|for \\(.*\\) \\w+\\[i\\] = new \\w+\\(\\);");
            holds("made outside a constructor: " + line, field || inConstructor);
        }
    }

    /** By the indents: a method is what stands between a line that opens it and the bracket below its first sign. */
    private static void lengths(String source) {
        String[] lines = source.split("\n");
        for (int i = 0; i < lines.length; i++) {
            Matcher m = Pattern.compile("^( {4}| {8})(?!.*\\bclass\\b)\\S.*\\) \\{$").matcher(lines[i]);
            if (!m.find() || lines[i].matches(" *(for|if|while|switch|\\} else).*")) continue;
            int end = i;
            while (end < lines.length && !lines[end].equals(m.group(1) + "}")) end++;
            holds("sixty lines at most: " + lines[i].trim(), end - i < 60);
        }
    }

    private static void signs(String source) {
        for (int i = 0; i < source.length(); i++) {
            char c = source.charAt(i);
            if (c != 10 && (c < 32 || c > 126)) holds("the sign " + (int) c, false);
        }
    }

    /** 512 of the dearest calls make nothing at all beside what the new object made. */
    private static void room() {
        com.sun.management.ThreadMXBean threads = (com.sun.management.ThreadMXBean) ManagementFactory.getThreadMXBean();
        Check check = new Check("FormTest");
        check.begin("sieve a from 0 by 1 many 600 flavius; sieve b from 2 by 1 many 600 prime;"
                + "sieve c from 1 by 1 many 600 ludic; sieve d from 1 by 2 many 600 lucky; list e 5 9998 9999;");
        long ahead = threads.getCurrentThreadAllocatedBytes();
        callMany(check.house);
        long made = threads.getCurrentThreadAllocatedBytes() - ahead;
        holds("512 calls made " + made + " bytes", made < 100_000);
    }

    /** What a new object holds: no call makes more, so it is all the room that a run takes. */
    private static void roomOfNewObject() throws IllegalAccessException {
        Set<Object> objects = Collections.newSetFromMap(new IdentityHashMap<>());
        long parts = partsOf(new SieveHouse(), objects);
        holds("a new object holds " + objects.size() + " objects and arrays", objects.size() < 600_000 / 100);
        holds("a new object holds " + parts + " fields and elements", parts < 7_300_000 / 100);
    }

    private static long partsOf(Object o, Set<Object> objects) throws IllegalAccessException {
        if (o == null || !objects.add(o)) return 0;
        long parts = 0;
        if (o.getClass().isArray()) {
            int length = Array.getLength(o);
            for (int i = 0; i < length; i++) {
                if (!o.getClass().getComponentType().isPrimitive()) parts += partsOf(Array.get(o, i), objects);
            }
            return parts + length;
        }
        for (Field f : o.getClass().getDeclaredFields()) {
            if (Modifier.isStatic(f.getModifiers())) continue;
            f.setAccessible(true);
            if (!f.getType().isPrimitive()) parts += partsOf(f.get(o), objects);
            parts++;
        }
        return parts;
    }

    private static void callMany(SieveHouse x) {
        for (int i = 0; i < 32; i++) {
            x.guess(0);
            x.all(i % 4);
            x.longer(i % 4, 600 - i);
            x.strike(i % 4, 3);
            x.undo();
            x.misses(i % 4, 1);
            x.ring(i % 4, 7, -1);
            x.mirror(i % 4, 0);
            x.print(i % 4);
            x.would(i % 4, 5);
            x.till(i % 4, 1);
            x.drop(3);
            x.make(0, 1, 2, 600);
            x.lead(0, 1, 3);
            x.usual(2);
            x.load(0x7fffffff);
        }
    }
}
