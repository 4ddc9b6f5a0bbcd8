import java.util.ArrayList;
import java.util.List;

/** All that a house tells of itself, in fewer than 400 calls; the last of them undo its acts and empty its tape. */
final class Marks {
    private static final int PLACES = 12;
    private static final int STRUCK = 5;
    private static final int ROUNDS = 4;
    private static final int NUMBERS = 10;
    private static final int BYTES = 24;
    /** More than are kept. */
    private static final int ACTS = 12;

    final List<Integer> all = new ArrayList<>();
    private final SieveHouse house;

    Marks(SieveHouse house, boolean tapeAndFaultToo) {
        this.house = house;
        if (tapeAndFaultToo) faults();
        for (int what = 0; what < 3; what++) all.add(house.many(what));
        for (int s = 0; s < house.many(0); s++) sieve(s);
        for (int l = 0; l < house.many(2); l++) list(l);
        for (int i = 0; i < BYTES; i++) all.add(house.out(i));
        for (int i = 0; i < ACTS && house.undo() != SieveHouse.NONE; i++) undone();
        if (tapeAndFaultToo) tape();
    }

    private void faults() {
        all.add(house.fault(0));
        all.add(house.fault(1));
    }

    private void sieve(int s) {
        for (int what = 0; what < 8; what++) all.add(house.sieve(s, what));
        int size = house.sieve(s, 4);
        for (int p = 1; p <= Math.min(size, PLACES); p++) all.add(house.number(s, p));
        all.add(house.number(s, size));
        int gone = house.gone(s, -1);
        for (int k = 0; k < Math.min(gone, STRUCK); k++) {
            int n = house.gone(s, k);
            all.add(n);
            all.add(house.fate(s, n, 0));
            all.add(house.fate(s, n, 1));
        }
        for (int r = 1; r <= Math.min(house.sieve(s, 5), ROUNDS); r++) {
            for (int what = 0; what < 4; what++) all.add(house.told(s, r, what));
        }
    }

    private void list(int l) {
        int size = house.list(l, -1);
        for (int i = 0; i < Math.min(size, NUMBERS); i++) all.add(house.list(l, i));
    }

    private void undone() {
        int sieves = house.many(0);
        all.add(sieves);
        for (int s = 0; s < sieves; s++) {
            all.add(house.sieve(s, 1));
            all.add(house.sieve(s, 4));
            all.add(house.number(s, 2));
        }
    }

    /** How many bytes there are, and what load() finds in them. */
    private void tape() {
        int blank = 0x20202020;
        int size = house.feed(blank, blank, blank, blank, blank) - 20;
        if (size < 0) size = 600;
        all.add(size);
        all.add(house.load(size));
        all.add(house.many(2));
        all.add(house.list(0, 0));
        faults();
    }
}
