import java.util.ArrayList;
import java.util.List;

/**
 * Promises 4 and 5 of texts that are one step off some good ones: each byte another one, each token another one,
 * one more or one less, each length, two tokens at once (each seventh mix), sieves and lists told too often.
 */
public final class EveryTextTest {
    private static final Twin twin = new Twin("EveryTextTest");
    private static final String[] GOOD = {
        "sieve a from 1 by 2 many 10 lucky ; list b 3 7 9 ;",
        "list abcdefgh 0 9999 ; sieve x from 999 by 99 many 600 fixed 99 rounds 60 ;",
        "sieve a from 0 by 1 many 2 told 2 999 ; sieve b from 1 by 1 many 2 flavius ; sieve c from 1 by 1 many 2 ludic ;"
            + " sieve d from 0001 by 01 many 0600 prime ; list e 0 1 2 3 4 5 6 7 8 9 ; list f 1 ; list g 1 ;",
        "sieve b from 1 by 1 many 3 told 2 3 4 5 6 7 8 9 10 11 12 13 ; list a 5 ;"};
    private static final String[] TOKENS = {"sieve", "list", "from", "by", "many", "rounds", "lucky", "flavius", "ludic", "prime",
        "fixed", "told", ";", "a", "b", "z", "abcdefgh", "abcdefghi", "sieves", "fro", "0", "1", "2", "3", "9", "60", "61", "99", "100",
        "600", "601", "999", "1000", "9999", "00001", "10000", "A", "-1", "\t", "\r", "\0", "\u00ff", ";;"};

    public static void main(String[] args) {
        for (String text : GOOD) {
            everyLength(text);
            everyByte(text);
            everyToken(text);
        }
        everyTwoTokens(GOOD[0]);
        everyTwoTokens("sieve a from 1 by 2 many 10 fixed 3 rounds 4 ;");
        everyTwoTokens("sieve a from 1 by 2 many 10 told 3 4 ;");
        tooOften();
        twin.end();
    }

    private static void tells(String text) {
        if (text.length() > 600) return;
        twin.begin();
        twin.load(text);
        told();
    }

    private static void told() {
        for (int what = 0; what <= 1; what++) twin.ask("fault", what);
        int sieves = twin.ask("many", 0);
        int lists = twin.ask("many", 2);
        for (int s = 0; s < sieves; s++) {
            for (int what = 0; what <= 3; what++) twin.ask("sieve", s, what);
            twin.act("all", s);
            for (int r = 1; r <= 13; r += 4) twin.ask("told", s, r, 0);
            twin.ask("sieve", s, 5);
        }
        for (int l = 0; l < lists; l++) {
            for (int i = -1; i <= 10; i++) twin.ask("list", l, i);
        }
    }

    private static void everyLength(String text) {
        for (int n = 0; n <= text.length(); n++) {
            tells(text.substring(0, n));
            twin.begin();
            twin.load("sieve s from 1 by 1 many 5 lucky;");
            for (int i = 0; i < text.length(); i += 20) {
                int[] words = new int[5];
                for (int j = 0; j < 20 && i + j < text.length(); j++) words[j / 4] |= text.charAt(i + j) << 24 - j % 4 * 8;
                twin.act("feed", words);
            }
            twin.act("load", n);
            told();
        }
    }

    private static void everyByte(String text) {
        for (int i = 0; i < text.length(); i++) {
            for (int b = 0; b < 256; b++) {
                boolean near = b == 10 || b == 32 || b == ';' || b >= '0' && b <= '9' || b >= 'a' && b <= 'z';
                if (near || i < 60) tells(text.substring(0, i) + (char) b + text.substring(i + 1));
            }
        }
    }

    private static void everyToken(String text) {
        List<String> tokens = List.of(text.split(" "));
        for (int i = 0; i <= tokens.size(); i++) {
            for (String token : TOKENS) {
                List<String> more = new ArrayList<>(tokens);
                more.add(i, token);
                tells(String.join(" ", more));
                tells(String.join("\n", more));
                if (i == tokens.size()) continue;
                List<String> other = new ArrayList<>(tokens);
                other.set(i, token);
                tells(String.join("  ", other) + " ");
            }
            if (i == tokens.size()) continue;
            List<String> less = new ArrayList<>(tokens);
            less.remove(i);
            tells(String.join(" ", less));
            List<String> glued = new ArrayList<>(tokens);
            glued.set(i, glued.get(i) + (i + 1 < tokens.size() ? glued.remove(i + 1) : ""));
            tells(String.join(" ", glued));
        }
    }

    private static void everyTwoTokens(String text) {
        List<String> tokens = List.of(text.split(" "));
        for (int i = 0; i < tokens.size(); i++) {
            for (int j = i + 1; j < tokens.size(); j++) {
                for (int k = 0; k < TOKENS.length * TOKENS.length; k += 7) {
                    List<String> other = new ArrayList<>(tokens);
                    other.set(i, TOKENS[k % TOKENS.length]);
                    other.set(j, TOKENS[k / TOKENS.length]);
                    tells(String.join(" ", other));
                }
            }
        }
    }

    /** Up to six sieves and five lists, in every order, some names told twice. */
    private static void tooOften() {
        for (int order = 0; order < 1 << 9; order++) {
            for (int same = 0; same < 3; same++) {
                StringBuilder text = new StringBuilder();
                for (int i = 0; i < 9; i++) {
                    char name = (char) ('a' + (same > 0 && i == 2 * same + 3 ? same : i));
                    boolean sieve = (order >> i & 1) == 0;
                    text.append(sieve ? "sieve " : "list ").append(name);
                    text.append(sieve ? " from 1 by 1 many 9 lucky;" : " 1 2;");
                    tells(text.toString());
                }
            }
        }
    }
}
