import java.util.ArrayDeque;
import java.util.ArrayList;
import java.util.Collections;
import java.util.Deque;
import java.util.HashSet;
import java.util.LinkedHashMap;
import java.util.List;
import java.util.Map;
import java.util.Set;
import java.util.TreeMap;
import java.util.TreeSet;

/** The document once more, by whole rows kept for every round and by definitions tried one by one. */
final class Model {
    static final int NONE = -1;

    /** A round that was done: its gap, the row right ahead of it and right behind it. */
    record Round(int gap, List<Integer> ahead, List<Integer> behind) { }

    /** What struck a number: the round (0 by hand) and the place right ahead of that. */
    record Fate(int round, int place) { }

    static final class Sieve {
        int kind;
        int from;
        int by;
        int many;
        int limit;
        List<Integer> told = new ArrayList<>();
        List<Integer> row = new ArrayList<>();
        List<Round> rounds = new ArrayList<>();
        Map<Integer, Fate> fates = new LinkedHashMap<>();
        int hands;
        boolean handBetween;
        boolean handSinceRound;

        static Sieve of(int kind, int from, int by, int many) {
            Sieve s = new Sieve();
            s.kind = kind;
            s.from = from;
            s.by = by;
            s.many = many;
            s.anew();
            return s;
        }

        void anew() {
            row = first();
            rounds = new ArrayList<>();
            fates = new LinkedHashMap<>();
            hands = 0;
            handBetween = false;
            handSinceRound = false;
        }

        List<Integer> first() {
            List<Integer> first = new ArrayList<>();
            for (int i = 0; i < many; i++) first.add(from + i * by);
            return first;
        }

        Sieve copy() {
            Sieve s = new Sieve();
            s.kind = kind;
            s.from = from;
            s.by = by;
            s.many = many;
            s.limit = limit;
            s.told = new ArrayList<>(told);
            s.row = new ArrayList<>(row);
            s.rounds = new ArrayList<>(rounds);
            s.fates = new LinkedHashMap<>(fates);
            s.hands = hands;
            s.handBetween = handBetween;
            s.handSinceRound = handSinceRound;
            return s;
        }

        /** The numbers that the next round strikes; null if it can't be. */
        List<Integer> next(int[] gapOut) {
            int r = rounds.size() + 1;
            int gap;
            int head = 0;
            if (kind == 4) {
                if (r > limit) return null;
                gap = told.get(0);
            } else if (kind == 5) {
                if (r > told.size()) return null;
                gap = told.get(r - 1);
            } else if (kind == 1) {
                gap = r + 1;
            } else {
                if (row.size() < r + 1) return null;
                gap = row.get(r);
                if (kind != 0) head = r + 1;
            }
            if (gap < 2) return null;
            List<Integer> struck = new ArrayList<>();
            if (kind == 3) {
                for (int n : row.subList(head, row.size())) if (n % gap == 0) struck.add(n);
            } else {
                for (int place = head + gap; place <= row.size(); place += gap) struck.add(row.get(place - 1));
            }
            if (kind <= 3 && struck.isEmpty()) return null;
            gapOut[0] = gap;
            return struck;
        }

        boolean done() {
            return next(new int[1]) == null;
        }

        int round() {
            int[] gap = new int[1];
            List<Integer> struck = next(gap);
            List<Integer> behind = new ArrayList<>(row);
            behind.removeAll(struck);
            for (int n : struck) fates.put(n, new Fate(rounds.size() + 1, row.indexOf(n) + 1));
            if (!rounds.isEmpty() && handSinceRound) handBetween = true;
            handSinceRound = false;
            rounds.add(new Round(gap[0], new ArrayList<>(row), behind));
            row = new ArrayList<>(behind);
            return struck.size();
        }

        int all() {
            int did = 0;
            while (!done()) {
                round();
                did++;
            }
            return did;
        }

        void hand(int n) {
            fates.put(n, new Fate(0, row.indexOf(n) + 1));
            row.remove(Integer.valueOf(n));
            hands++;
            handSinceRound = true;
        }

        List<Integer> gaps() {
            List<Integer> gaps = new ArrayList<>();
            for (int i = 1; i < row.size(); i++) gaps.add(row.get(i) - row.get(i - 1));
            return gaps;
        }
    }

    static final class Fault extends RuntimeException {
        private static final long serialVersionUID = 1L;
        final int kind;
        final int place;

        Fault(int kind, int place) {
            super(null, null, false, false);
            this.kind = kind;
            this.place = place;
        }
    }

    record State(List<Sieve> sieves) { }

    int status;
    private StringBuilder tape = new StringBuilder();
    private List<Sieve> sieves = new ArrayList<>();
    private List<List<Integer>> lists = new ArrayList<>();
    private final Deque<State> acts = new ArrayDeque<>();
    private int faultKind = NONE;
    private int faultPlace = NONE;
    private String out = "";

    List<Integer> rowOf(int s) {
        return s >= 0 && s < sieves.size() ? sieves.get(s).row : new ArrayList<>();
    }

    private int fail(int why) {
        status = why;
        return NONE;
    }

    private int ok(int value) {
        status = 0;
        return value;
    }

    private boolean no(int s) {
        return s < 0 || s >= sieves.size();
    }

    private boolean noList(int l) {
        return l < 0 || l >= lists.size();
    }

    private static boolean out(int n, int least, int most) {
        return n < least || n > most;
    }

    private void act() {
        List<Sieve> copies = new ArrayList<>();
        for (Sieve s : sieves) copies.add(s.copy());
        acts.push(new State(copies));
        while (acts.size() > 8) acts.removeLast();
    }

    private int nth(List<Integer> found, int k) {
        if (k == NONE) return ok(found.size());
        return k < found.size() ? ok(found.get(k)) : fail(5);
    }

    int call(String name, int[] a) {
        switch (name) {
            case "status": return status;
            case "feed": return feed(a);
            case "load": return load(a[0]);
            case "fault": return a[0] == 0 ? faultKind : a[0] == 1 ? faultPlace : NONE;
            case "many":
                if (out(a[0], 0, 2)) return fail(1);
                return ok(a[0] == 0 ? sieves.size() : a[0] == 1 ? acts.size() : lists.size());
            case "make": return make(a[0], a[1], a[2], a[3]);
            case "undo":
                if (acts.isEmpty()) return fail(5);
                sieves = new ArrayList<>(acts.pop().sieves());
                return ok(acts.size());
            case "list":
                if (a[1] < NONE) return fail(1);
                return noList(a[0]) ? fail(2) : nth(lists.get(a[0]), a[1]);
            case "guess": return guess(a[0]);
            case "out":
                if (a[0] < 0) return fail(1);
                return a[0] < out.length() ? ok(out.charAt(a[0])) : fail(5);
            case "sieve": case "round": case "all": case "told": case "strike": case "longer": case "drop":
                return rounds(name, a);
            case "number": case "rank": case "fate": case "back": case "ahead": case "would": case "till":
            case "origin": case "gone": case "upTo":
                return places(name, a);
            case "both": case "lead": case "alike": case "through": case "meets": case "apart":
                return compared(name, a);
            case "fits": return fits(a[0], a[1], a[2]);
            case "print": return print(a[0]);
            default: return gapCalls(name, a);
        }
    }

    private int feed(int[] a) {
        if (tape.length() + 20 > 600) return NONE;
        for (int n : a) {
            tape.append((char) (n >>> 24)).append((char) (n >> 16 & 255)).append((char) (n >> 8 & 255)).append((char) (n & 255));
        }
        return tape.length();
    }

    // ---- the text

    private String text;
    private int at;
    private List<Sieve> newSieves;
    private List<List<Integer>> newLists;
    private Set<String> names;

    private int load(int n) {
        if (n < 0 || n > tape.length()) return fail(1);
        text = tape.substring(0, n);
        tape = new StringBuilder();
        at = 0;
        newSieves = new ArrayList<>();
        newLists = new ArrayList<>();
        names = new HashSet<>();
        try {
            while (!peek().isEmpty()) line();
        } catch (Fault f) {
            faultKind = f.kind;
            faultPlace = f.place;
            return fail(9);
        }
        faultKind = 0;
        faultPlace = NONE;
        sieves = newSieves;
        lists = newLists;
        acts.clear();
        return ok(sieves.size());
    }

    private static final java.util.regex.Pattern TOKEN = java.util.regex.Pattern.compile("[a-z]+|[0-9]+|;");
    private static final Set<String> RESERVED = Set.of("sieve", "from", "by", "many", "lucky", "flavius", "ludic",
            "prime", "fixed", "rounds", "told", "list");
    private static final List<String> LAWS = List.of("lucky", "flavius", "ludic", "prime", "fixed", "told");

    /** The token that is next ("" at the end); its place is then in at. */
    private String peek() {
        while (at < text.length() && (text.charAt(at) == ' ' || text.charAt(at) == '\n')) at++;
        if (at == text.length()) return "";
        java.util.regex.Matcher m = TOKEN.matcher(text);
        m.region(at, text.length());
        if (!m.lookingAt()) throw new Fault(1, at);
        String t = m.group();
        if (Character.isLetter(t.charAt(0)) && t.length() > 8) throw new Fault(1, at);
        if (Character.isDigit(t.charAt(0)) && t.length() > 4) throw new Fault(1, at);
        return t;
    }

    private void take(String token) {
        if (!peek().equals(token)) throw new Fault(2, at);
        at += token.length();
    }

    private static boolean isNumber(String t) {
        return !t.isEmpty() && Character.isDigit(t.charAt(0));
    }

    private int number(int least, int most) {
        String t = peek();
        if (!isNumber(t)) throw new Fault(2, at);
        int n = Integer.parseInt(t);
        if (n < least || n > most) throw new Fault(3, at);
        at += t.length();
        return n;
    }

    private void name() {
        String t = peek();
        if (t.isEmpty() || !Character.isLetter(t.charAt(0)) || RESERVED.contains(t)) throw new Fault(2, at);
        if (!names.add(t)) throw new Fault(4, at);
        at += t.length();
    }

    private void line() {
        String word = peek();
        if (word.equals("list")) {
            if (newLists.size() == 3) throw new Fault(5, at);
            take(word);
            name();
            List<Integer> numbers = new ArrayList<>();
            numbers.add(number(0, 9999));
            while (isNumber(peek())) {
                int place = at;
                int n = number(numbers.get(numbers.size() - 1) + 1, 9999);
                if (numbers.size() == 10) throw new Fault(5, place);
                numbers.add(n);
            }
            take(";");
            newLists.add(numbers);
            return;
        }
        if (!word.equals("sieve")) throw new Fault(2, at);
        if (newSieves.size() == 4) throw new Fault(5, at);
        take(word);
        name();
        take("from");
        int from = number(0, 999);
        take("by");
        int by = number(1, 99);
        take("many");
        int many = number(2, 600);
        String law = peek();
        if (!LAWS.contains(law)) throw new Fault(2, at);
        take(law);
        Sieve s = Sieve.of(LAWS.indexOf(law), from, by, many);
        if (law.equals("fixed")) {
            s.told.add(number(2, 99));
            take("rounds");
            s.limit = number(1, 60);
        }
        if (law.equals("told")) {
            s.told.add(number(2, 999));
            while (isNumber(peek())) {
                int place = at;
                int n = number(2, 999);
                if (s.told.size() == 12) throw new Fault(5, place);
                s.told.add(n);
            }
        }
        take(";");
        newSieves.add(s);
    }

    // ---- rounds

    private int make(int kind, int from, int by, int many) {
        if (out(kind, 0, 3) || out(from, 0, 999) || out(by, 1, 99) || out(many, 2, 600)) return fail(1);
        if (sieves.size() == 4) return fail(3);
        act();
        sieves.add(Sieve.of(kind, from, by, many));
        return ok(sieves.size() - 1);
    }

    private int rounds(String name, int[] a) {
        if (name.equals("sieve") && out(a[1], 0, 7)) return fail(1);
        if (name.equals("told") && (a[1] < 1 || out(a[2], 0, 3))) return fail(1);
        if (name.equals("longer") && out(a[1], 2, 600)) return fail(1);
        if (no(a[0])) return fail(2);
        Sieve s = sieves.get(a[0]);
        switch (name) {
            case "sieve":
                return ok(new int[] {s.kind, s.from, s.by, s.many, s.row.size(), s.rounds.size(), s.done() ? 1 : 0, s.hands}[a[1]]);
            case "round":
                if (s.done()) return fail(5);
                act();
                return ok(s.round());
            case "all":
                if (s.done()) return fail(5);
                act();
                return ok(s.all());
            case "told": {
                if (a[1] > s.rounds.size()) return fail(5);
                Round r = s.rounds.get(a[1] - 1);
                List<Integer> struck = new ArrayList<>(r.ahead());
                struck.removeAll(r.behind());
                if (a[2] == 0) return ok(r.gap());
                if (a[2] == 1) return ok(struck.size());
                if (a[2] == 3) return ok(r.behind().size());
                return struck.isEmpty() ? fail(5) : ok(struck.get(0));
            }
            case "strike": {
                int place = s.row.indexOf(a[1]) + 1;
                if (place == 0 || s.row.size() == 1) return fail(5);
                act();
                s.hand(a[1]);
                return ok(place);
            }
            case "longer": {
                if (s.many == a[1]) return fail(4);
                act();
                int done = s.rounds.size();
                s.many = a[1];
                s.anew();
                for (int i = 0; i < done && !s.done(); i++) s.round();
                return ok(s.row.size());
            }
            default:
                act();
                sieves.remove(a[0]);
                return ok(sieves.size());
        }
    }

    // ---- places

    private int places(String name, int[] a) {
        switch (name) {
            case "number": case "would": case "origin":
                if (a[1] < 1) return fail(1);
                break;
            case "fate":
                if (out(a[2], 0, 1)) return fail(1);
                break;
            case "back": case "ahead":
                if (a[1] < 1 || a[2] < 1) return fail(1);
                break;
            case "till":
                if (out(a[1], 1, 600)) return fail(1);
                break;
            case "gone":
                if (a[1] < NONE) return fail(1);
                break;
            default:
        }
        if (no(a[0])) return fail(2);
        Sieve s = sieves.get(a[0]);
        switch (name) {
            case "number": return a[1] > s.row.size() ? fail(5) : ok(s.row.get(a[1] - 1));
            case "rank": return s.row.contains(a[1]) ? ok(s.row.indexOf(a[1]) + 1) : fail(5);
            case "fate": {
                Fate f = s.fates.get(a[1]);
                return f == null ? fail(5) : ok(a[2] == 0 ? f.round() : f.place());
            }
            case "back": {
                if (a[1] > s.rounds.size()) return fail(5);
                Round r = s.rounds.get(a[1] - 1);
                return a[2] > r.behind().size() ? fail(5) : ok(r.ahead().indexOf(r.behind().get(a[2] - 1)) + 1);
            }
            case "ahead": {
                if (a[1] > s.rounds.size()) return fail(5);
                Round r = s.rounds.get(a[1] - 1);
                if (a[2] > r.ahead().size()) return fail(5);
                int place = r.behind().indexOf(r.ahead().get(a[2] - 1)) + 1;
                return place == 0 ? fail(5) : ok(place);
            }
            case "would": {
                Sieve t = s.copy();
                t.all();
                return a[1] > t.row.size() ? fail(5) : ok(t.row.get(a[1] - 1));
            }
            case "till": {
                Sieve t = s.copy();
                int did = 0;
                while (t.row.size() > a[1]) {
                    if (t.done()) return fail(5);
                    t.round();
                    did++;
                }
                return ok(did);
            }
            case "origin": {
                if (s.rounds.isEmpty() || s.handBetween) return fail(5);
                int place = a[1];
                for (int r = s.rounds.size() - 1; r >= 0; r--) {
                    Round round = s.rounds.get(r);
                    if (place > round.behind().size()) return fail(5);
                    place = round.ahead().indexOf(round.behind().get(place - 1)) + 1;
                }
                return ok(place);
            }
            case "gone": return nth(new ArrayList<>(new TreeSet<>(s.fates.keySet())), a[1]);
            default: {
                int count = 0;
                for (int n : s.row) if (n <= a[1]) count++;
                return ok(count);
            }
        }
    }

    // ---- gaps, pairs

    private static boolean impossible(String name, int[] a) {
        switch (name) {
            case "gap": case "balance": return a[1] < 1;
            case "gaps": return out(a[1], 0, 3);
            case "record": return a[1] < NONE;
            case "pairs": return a[1] < 1 || out(a[2], 0, 2);
            case "triples": return a[1] < 1 || a[2] <= a[1];
            case "misses": return out(a[1], 1, 99);
            case "run": case "mirror": return out(a[1], 0, 1);
            case "progression": return a[1] < 1 || out(a[2], 0, 1);
            case "rests": return out(a[1], 1, 999) || out(a[2], NONE, a[1] - 1);
            case "ring": return a[1] < 1 || a[2] < NONE;
            case "chain": return out(a[2], 0, 2);
            case "spread": return a[1] < 2 || out(a[2], 0, 1);
            case "sketch": return out(a[1], 1, 600) || a[2] < NONE;
            case "pattern": return a[1] < 1 || a[2] < 1 || a[3] < 0;
            default: return false;
        }
    }

    private int gapCalls(String name, int[] a) {
        if (impossible(name, a)) return fail(1);
        if (no(a[0])) return fail(2);
        Sieve s = sieves.get(a[0]);
        List<Integer> row = s.row;
        List<Integer> gaps = s.gaps();
        switch (name) {
            case "gap": return a[1] > gaps.size() ? fail(5) : ok(gaps.get(a[1] - 1));
            case "gaps": {
                if (gaps.isEmpty()) return fail(5);
                int most = Collections.max(gaps);
                return ok(new int[] {most, gaps.indexOf(most) + 1, Collections.frequency(gaps, most), new HashSet<>(gaps).size()}[a[1]]);
            }
            case "gapsOf": return ok(Collections.frequency(gaps, a[1]));
            case "record": {
                List<Integer> places = new ArrayList<>();
                for (int i = 0; i < gaps.size(); i++) {
                    if (i == 0 || gaps.get(i) > Collections.max(gaps.subList(0, i))) places.add(i + 1);
                }
                return nth(places, a[1]);
            }
            case "usual": {
                if (gaps.isEmpty()) return fail(5);
                TreeMap<Integer, Integer> tally = new TreeMap<>();
                for (int gap : gaps) tally.merge(gap, 1, Integer::sum);
                int most = Collections.max(tally.values());
                for (Map.Entry<Integer, Integer> e : tally.entrySet()) if (e.getValue() == most) return ok(e.getKey());
                return NONE;
            }
            case "run": {
                int best = 0;
                int first = 0;
                for (int p = 0; p < row.size(); p++) {
                    int q = p;
                    while (q < gaps.size() && gaps.get(q) == s.by) q++;
                    if (q - p + 1 > best) {
                        best = q - p + 1;
                        first = p + 1;
                    }
                }
                return ok(a[1] == 0 ? best : first);
            }
            case "spread": {
                if (a[1] > row.size()) return fail(5);
                List<Integer> widths = new ArrayList<>();
                for (int p = 0; p + a[1] <= row.size(); p++) widths.add(row.get(p + a[1] - 1) - row.get(p));
                int least = Collections.min(widths);
                return ok(a[2] == 0 ? least : widths.indexOf(least) + 1);
            }
            case "sketch": {
                List<Integer> cells = new ArrayList<>();
                for (int low = s.from; low <= s.from + (s.many - 1) * s.by; low += a[1] * s.by) {
                    int count = 0;
                    for (int n : row) if (n >= low && n <= low + a[1] * s.by - 1) count++;
                    cells.add(count);
                }
                return nth(cells, a[2]);
            }
            case "balance": return a[1] > row.size() ? fail(5) : ok(row.get(a[1] - 1) - s.first().get(a[1] - 1));
            case "pattern": {
                List<Integer> wanted = a[3] > 0 ? List.of(a[1], a[2], a[3]) : List.of(a[1], a[2]);
                int count = 0;
                for (int p = 0; p + wanted.size() <= gaps.size(); p++) {
                    if (gaps.subList(p, p + wanted.size()).equals(wanted)) count++;
                }
                return ok(count);
            }
            case "mirror": {
                if (gaps.isEmpty()) return fail(5);
                for (int length = gaps.size(); length >= 1; length--) {
                    for (int p = 0; p + length <= gaps.size(); p++) {
                        boolean same = true;
                        for (int i = 0; i < length / 2 && same; i++) same = gaps.get(p + i).equals(gaps.get(p + length - 1 - i));
                        if (same) return ok(a[1] == 0 ? length : p + 1);
                    }
                }
                return NONE;
            }
            case "half": {
                for (int n : row) {
                    int less = row.indexOf(n);
                    int greater = row.size() - 1 - less;
                    if (less == greater || less == greater - 1) return ok(n);
                }
                return NONE;
            }
            default: return numberCalls(name, a, s);
        }
    }

    private int numberCalls(String name, int[] a, Sieve s) {
        List<Integer> row = s.row;
        Set<Long> in = new HashSet<>();
        for (int n : row) in.add((long) n);
        switch (name) {
            case "pairs": {
                List<Integer> lesser = new ArrayList<>();
                for (int n : row) if (in.contains((long) n + a[1])) lesser.add(n);
                if (a[2] == 0) return ok(lesser.size());
                if (lesser.isEmpty()) return fail(5);
                return ok(lesser.get(a[2] == 1 ? 0 : lesser.size() - 1));
            }
            case "triples": {
                int count = 0;
                for (int n : row) if (in.contains((long) n + a[1]) && in.contains((long) n + a[2])) count++;
                return ok(count);
            }
            case "sums": return ok(ways(row, in, a[1]));
            case "misses": {
                for (int n = 2 * row.get(0); n <= 2 * row.get(row.size() - 1); n += a[1]) {
                    if (ways(row, in, n) == 0) return ok(n);
                }
                return fail(5);
            }
            case "progression": {
                int best = 0;
                int first = NONE;
                for (int n : row) {
                    int length = 0;
                    for (long m = n; in.contains(m); m += a[1]) length++;
                    if (length > best) {
                        best = length;
                        first = n;
                    }
                }
                return ok(a[2] == 0 ? best : first);
            }
            case "rests": {
                List<Integer> rests = new ArrayList<>();
                for (int n : row) rests.add(n % a[1]);
                return ok(a[2] == NONE ? new HashSet<>(rests).size() : Collections.frequency(rests, a[2]));
            }
            case "ring": {
                Deque<Integer> ring = new ArrayDeque<>(row);
                List<Integer> struck = new ArrayList<>();
                while (!ring.isEmpty()) {
                    int steps = (a[1] - 1) % ring.size();
                    for (int i = 0; i < steps; i++) ring.addLast(ring.removeFirst());
                    struck.add(ring.removeFirst());
                }
                return a[2] == NONE ? ok(struck.get(struck.size() - 1)) : nth(struck, a[2]);
            }
            case "chain": {
                if (!row.contains(a[1])) return fail(5);
                List<Integer> chain = new ArrayList<>();
                int n = a[1];
                while (true) {
                    chain.add(n);
                    if (n < 1 || n > row.size()) return ok(new int[] {chain.size(), n, 0}[a[2]]);
                    int next = row.get(n - 1);
                    if (chain.contains(next)) return ok(new int[] {chain.size(), n, 1}[a[2]]);
                    n = next;
                }
            }
            default: throw new IllegalStateException(name);
        }
    }

    private static int ways(List<Integer> row, Set<Long> in, int n) {
        int ways = 0;
        for (int m : row) if (2L * m <= n && in.contains((long) n - m)) ways++;
        return ways;
    }

    // ---- sieves compared

    private int compared(String name, int[] a) {
        boolean bad = switch (name) {
            case "both" -> out(a[2], 0, 3);
            case "lead" -> out(a[2], 0, 4);
            case "through" -> a[2] < NONE;
            case "meets" -> out(a[3], 0, 1);
            case "apart" -> out(a[2], 0, 1);
            default -> false;
        };
        if (bad) return fail(1);
        if (no(a[0]) || no(a[1])) return fail(2);
        Sieve s = sieves.get(a[0]);
        Sieve t = sieves.get(a[1]);
        switch (name) {
            case "both": {
                TreeSet<Integer> common = new TreeSet<>(s.row);
                common.retainAll(t.row);
                TreeSet<Integer> alone = new TreeSet<>(s.row);
                alone.addAll(t.row);
                alone.removeAll(common);
                if (a[2] == 3) return alone.isEmpty() ? fail(5) : ok(alone.first());
                return ok(new int[] {common.size(), s.row.size() - common.size(), t.row.size() - common.size()}[a[2]]);
            }
            case "lead": return ok(lead(s.row, t.row)[a[2]]);
            case "alike": {
                int r = 0;
                while (r < s.rounds.size() && r < t.rounds.size() && s.rounds.get(r).gap() == t.rounds.get(r).gap()) r++;
                return ok(r);
            }
            case "through": {
                List<Integer> found = new ArrayList<>();
                for (int p : t.row) if (p >= 1 && p <= s.row.size()) found.add(s.row.get(p - 1));
                return nth(found, a[2]);
            }
            case "meets": {
                int count = 0;
                for (long n : s.row) for (int m : t.row) if ((a[3] == 0 ? n + m : n - m) == a[2]) count++;
                return ok(count);
            }
            default: {
                int p = 0;
                int like = 0;
                int unlike = NONE;
                for (; p < s.row.size() || p < t.row.size(); p++) {
                    boolean same = p < s.row.size() && p < t.row.size() && s.row.get(p).equals(t.row.get(p));
                    if (same) like++;
                    else if (unlike == NONE) unlike = p + 1;
                }
                if (a[2] == 1) return ok(like);
                return unlike == NONE ? fail(5) : ok(unlike);
            }
        }
    }

    /** By every n from 0 on, one after the other. */
    private static int[] lead(List<Integer> s, List<Integer> t) {
        Set<Integer> one = new HashSet<>(s);
        Set<Integer> two = new HashSet<>(t);
        int end = Math.max(s.get(s.size() - 1), t.get(t.size() - 1));
        int lead = 0;
        int greatest = Integer.MIN_VALUE;
        int first = NONE;
        int least = Integer.MAX_VALUE;
        int turns = 0;
        int lastSide = 0;
        for (int n = 0; n <= end; n++) {
            if (one.contains(n)) lead++;
            if (two.contains(n)) lead--;
            if (lead > greatest) {
                greatest = lead;
                first = n;
            }
            least = Math.min(least, lead);
            if (lead > 0 && lastSide < 0 || lead < 0 && lastSide > 0) turns++;
            if (lead != 0) lastSide = lead;
        }
        return new int[] {greatest, first, least, turns, lead};
    }

    // ---- lists

    private static boolean together(List<Integer> row, List<Integer> list) {
        return Collections.indexOfSubList(row, list) >= 0;
    }

    private int fits(int s, int l, int what) {
        if (out(what, 0, 2)) return fail(1);
        if (no(s) || noList(l)) return fail(2);
        List<Integer> row = sieves.get(s).row;
        List<Integer> missing = new ArrayList<>(lists.get(l));
        missing.removeAll(row);
        if (what == 0) return ok(lists.get(l).size() - missing.size());
        if (what == 1) return missing.isEmpty() ? fail(5) : ok(missing.get(0));
        return ok(together(row, lists.get(l)) ? 1 : 0);
    }

    private int guess(int l) {
        if (noList(l)) return fail(2);
        for (int s = 0; s < sieves.size(); s++) {
            Sieve t = sieves.get(s).copy();
            t.all();
            if (together(t.row, lists.get(l))) return ok(s);
        }
        return fail(5);
    }

    private int print(int s) {
        if (no(s)) return fail(2);
        List<Integer> row = sieves.get(s).row;
        List<String> parts = new ArrayList<>();
        int p = 0;
        while (p < row.size()) {
            int q = p;
            while (q + 1 < row.size() && row.get(q + 1) - row.get(q) == sieves.get(s).by) q++;
            if (q - p >= 2) {
                parts.add(row.get(p) + "-" + row.get(q));
            } else {
                for (int i = p; i <= q; i++) parts.add(String.valueOf(row.get(i)));
            }
            p = q + 1;
        }
        out = String.join(" ", parts);
        return ok(out.length());
    }
}
