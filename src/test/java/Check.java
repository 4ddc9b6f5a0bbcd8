import java.nio.charset.StandardCharsets;

/** What the tests of calls share: a house, texts put on its tape, and a count of wrong answers. */
final class Check {
    static final int NONE = SieveHouse.NONE;

    private final String about;
    private int wrong;
    private int calls;
    SieveHouse house = new SieveHouse();

    Check(String about) {
        this.about = about;
    }

    /** A call that is answered: its value, and STATUS 0. */
    void gives(String call, int got, int due) {
        expect(call, got, due);
        expect("status behind " + call, house.status(), 0);
    }

    /** A call that is refused: NONE, and a STATUS. */
    void refuses(String call, int got, int status) {
        expect(call, got, NONE);
        expect("status behind " + call, house.status(), status);
    }

    /** A call that has no STATUS. */
    void expect(String call, int got, int due) {
        calls++;
        if (got == due) return;
        wrong++;
        System.out.println(about + ": " + call + " answered " + got + ", due is " + due);
    }

    /** A new house with a text loaded. */
    void begin(String text) {
        house = new SieveHouse();
        load(text);
    }

    int load(String text) {
        feed(text);
        return house.load(text.length());
    }

    void feed(String text) {
        byte[] bytes = text.getBytes(StandardCharsets.ISO_8859_1);
        for (int i = 0; i < bytes.length; i += 20) {
            house.feed(word(bytes, i), word(bytes, i + 4), word(bytes, i + 8), word(bytes, i + 12), word(bytes, i + 16));
        }
    }

    private static int word(byte[] bytes, int from) {
        int word = 0;
        for (int i = from; i < from + 4; i++) word = word << 8 | (i < bytes.length ? bytes[i] & 255 : 0);
        return word;
    }

    void faulty(String text, int kind, int place) {
        refuses("load of <" + text + ">", load(text), 9);
        expect("fault(0) of <" + text + ">", house.fault(0), kind);
        expect("fault(1) of <" + text + ">", house.fault(1), place);
    }

    /** The row of a sieve as print() tells it. */
    void prints(int s, String due) {
        gives("print(" + s + ")", house.print(s), due.length());
        StringBuilder out = new StringBuilder();
        for (int i = 0; i < due.length(); i++) out.append((char) house.out(i));
        if (!out.toString().equals(due)) {
            wrong++;
            System.out.println(about + ": print(" + s + ") wrote <" + out + ">, due is <" + due + ">");
        }
        refuses("out behind the last", house.out(due.length()), 5);
    }

    void end() {
        System.out.println(about + ": " + calls + " answers looked at, " + wrong + " wrong");
        if (wrong > 0) System.exit(1);
    }
}
