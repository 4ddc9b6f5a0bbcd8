import java.lang.reflect.Method;
import java.nio.file.Files;
import java.nio.file.Path;
import java.util.regex.Matcher;
import java.util.regex.Pattern;

/** What README.md says behind its calls is what they answer. */
public final class ReadmeTest {
    private static final Pattern CALL = Pattern.compile("house\\.(\\w+)\\(([-\\d, ]*)\\); // (-?\\d+)(, status (\\d))?(:.*)?");
    private static int looks;
    private static int wrong;

    public static void main(String[] args) throws Exception {
        SieveHouse house = new SieveHouse();
        for (String line : Files.readAllLines(Path.of("README.md"))) {
            if (!line.startsWith("house.")) continue;
            Matcher m = CALL.matcher(line);
            expect("is a call and its answer: " + line, m.matches() ? 1 : 0, 1);
            if (!m.matches()) continue;
            expect(line, call(house, m.group(1), m.group(2)), Integer.parseInt(m.group(3)));
            expect("status behind " + line, house.status(), m.group(5) == null ? 0 : Integer.parseInt(m.group(5)));
            Matcher printed = Pattern.compile(".*\"(.*)\"").matcher(line);
            if (m.group(1).equals("print") && printed.matches()) prints(house, printed.group(1));
        }
        expect("calls are there", looks > 40 ? 1 : 0, 1);
        System.out.println("ReadmeTest: " + looks + " looks, " + wrong + " wrong");
        if (wrong > 0) System.exit(1);
    }

    private static int call(SieveHouse house, String name, String numbers) throws ReflectiveOperationException {
        String[] words = numbers.isEmpty() ? new String[0] : numbers.split(", ");
        Object[] args = new Object[words.length];
        for (int i = 0; i < args.length; i++) args[i] = Integer.parseInt(words[i]);
        for (Method method : SieveHouse.class.getDeclaredMethods()) {
            if (method.getName().equals(name)) return (Integer) method.invoke(house, args);
        }
        throw new NoSuchMethodException(name);
    }

    private static void prints(SieveHouse house, String due) {
        StringBuilder got = new StringBuilder();
        for (int i = 0; i < due.length(); i++) got.append((char) house.out(i));
        expect("printed <" + got + ">, due is <" + due + ">", got.toString().equals(due) ? 1 : 0, 1);
    }

    private static void expect(String what, int got, int due) {
        looks++;
        if (got == due) return;
        wrong++;
        System.out.println("ReadmeTest: " + what + ": got " + got + ", due is " + due);
    }
}
