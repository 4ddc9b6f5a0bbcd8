/** Promises 1 to 7, the terms' paragraph 1 and 4: each bound of the tape, of a text and of its FAULTS, from both sides. */
public final class TextBoundsTest {
    private static final String BLANKS = " ".repeat(20);
    private static final Script script = new Script("TextBoundsTest");

    public static void main(String[] args) {
        newObject();
        noSieves();
        status();
        feed();
        bytesInOrder();
        load();
        loadTakesOver();
        fault();
        many();
        sieve();
        tokens();
        blanks();
        words();
        numbers();
        lines();
        names();
        sieveNumbers();
        laws();
        fixedNumbers();
        toldGaps();
        lists();
        listNumbers();
        faultsInOrder();
        faultsOfOneToken();
        endOfText();
        script.end();
    }

    /** "No SIEVES; STATUS 0." "NONE .. ahead of any." */
    private static void newObject() {
        script.bare("1: a new object");
        script.asks("status = 0", "many 0 = 0", "many 1 = 0", "many 2 = 0", "fault 0 = -1", "fault 1 = -1", "fault 2 = -1",
            "status = 0", "undo ! 5", "out 0 ! 5", "load 1 ! 1", "load -1 ! 1", "load 0 = 0");
        script.bare("1: STATUS 0 ahead of any call");
        script.asks("fault 0 = -1", "status = 0", "feed 0 0 0 0 0 = 20", "status = 0");
    }

    /** No call finds a SIEVE, a LIST in a new object; nothing is made by asking. */
    private static void noSieves() {
        String[] calls = {"sieve 0 0", "round 0", "all 0", "told 0 1 0", "strike 0 1", "longer 0 5", "drop 0", "number 0 1",
            "rank 0 1", "fate 0 1 0", "back 0 1 1", "ahead 0 1 1", "would 0 1", "till 0 1", "origin 0 1", "gone 0 -1",
            "upTo 0 1", "gap 0 1", "gaps 0 0", "gapsOf 0 1", "record 0 -1", "pairs 0 1 0", "triples 0 1 2", "sums 0 1",
            "misses 0 1", "run 0 0", "progression 0 1 0", "rests 0 1 0", "ring 0 1 0", "chain 0 1 0", "spread 0 2 0",
            "sketch 0 1 -1", "balance 0 1", "pattern 0 1 1 0", "mirror 0 0", "half 0", "usual 0", "both 0 0 0",
            "lead 0 0 0", "alike 0 0", "through 0 0 -1", "list 0 -1", "fits 0 0 0", "guess 0", "meets 0 0 1 0",
            "apart 0 0 0", "print 0"};
        script.bare("1: no SIEVE, no LIST");
        for (String call : calls) script.asks(call + " ! 2");
        script.asks("many 0 = 0");
        for (String call : calls) noOther(call);
    }

    /** The number below 0, and the one that is just not there, where SIEVE 0 and LIST 0 stand. */
    private static void noOther(String call) {
        script.begin("4: no such SIEVE, LIST: " + call, "sieve a from 1 by 1 many 9 flavius; list b 1;");
        script.asks("round 0 = 4");
        for (String s : new String[] {"-1", "1", "least", "most"}) {
            script.asks(call.replaceFirst(" 0", " " + s) + " ! 2");
            if (call.matches("(both|lead|alike|through|fits|meets|apart) 0 0.*")) {
                script.asks(call.replaceFirst(" 0 0", " 0 " + s) + " ! 2");
            }
        }
    }

    /** "STATUS of the latest call that has one." "status(), feed(), fault() have none." */
    private static void status() {
        script.begin("2: status, feed, fault have no STATUS", "sieve a from 1 by 1 many 2 flavius; list b 1;");
        script.asks("many 3 ! 1", "status = 1", "feed 0 0 0 0 0 = 40", "status = 1", "fault 0 = 0", "status = 1", "fault 2 = -1",
            "status = 1", "sieve 1 0 ! 2", "status = 2", "status = 2", "longer 0 2 ! 4", "status = 4", "gap 0 2 ! 5", "status = 5",
            "fault 1 = -1", "status = 5", "many 2 = 1", "status = 0", "make 0 0 1 2 = 1", "make 0 0 1 2 = 2", "make 0 0 1 2 = 3",
            "make 0 0 1 2 ! 3", "status = 3", "feed 0 0 0 0 0 = 60", "status = 3", "load 60 ! 9", "status = 9", "fault 0 = 1",
            "status = 9", "half 0 = 1", "status = 0");
        script.bare("3: nor has a feed() that is refused");
        for (int i = 0; i < 30; i++) script.feeds(BLANKS);
        script.asks("many 3 ! 1", "feed 0 0 0 0 0 = -1", "status = 1", "many 0 = 0", "feed 0 0 0 0 0 = -1", "status = 0");
    }

    /** "how many it has; NONE if there would be more than 600." */
    private static void feed() {
        script.bare("3: at most 600 bytes");
        for (int i = 0; i < 29; i++) script.feeds(BLANKS);
        script.asks("feed 0 0 0 0 0 = 600", "feed 0 0 0 0 0 = -1", "feed 0 0 0 0 0 = -1", "load 601 ! 1", "load 580 = 0",
            "feed 0 0 0 0 0 = 20");
        script.bare("3: a feed() that is refused leaves the tape as it is");
        for (int i = 0; i < 29; i++) script.feeds(BLANKS);
        script.feeds("list a 9999;        ");
        script.asks("feed 0 0 0 0 0 = -1", "load 600 = 0", "many 2 = 1", "list 0 0 = 9999");
        script.bare("1: a TEXT of 600 bytes, its last byte a SIGN");
        script.feeds("list a 1;" + " ".repeat(582) + "list b 2;");
        script.asks("load 600 = 0", "many 2 = 2", "list 1 0 = 2");
    }

    /** "the highest of each int first": a byte that begins no TOKEN, at each of the twenty places. */
    private static void bytesInOrder() {
        for (int place = 0; place < 20; place++) {
            script.faulty(" ".repeat(place) + "\u00ff" + " ".repeat(19 - place), 1, place);
            script.faulty(" ".repeat(place) + "\u0080" + " ".repeat(39 - place), 1, place);
        }
        script.bare("3: the tape goes on behind what it has");
        script.feeds("list a 1 2 3 4 5 6 7");
        script.feeds("8;");
        script.asks("load 22 = 0", "list 0 -1 = 7", "list 0 6 = 78");
    }

    /** "The first n bytes of the tape (which is empty then, also with 9) are SIEVES: how many (1: n below 0, above what the tape has; 9)." */
    private static void load() {
        String text = "list a 1 ; list b 2 ;       ";
        script.bare("4: n from 0 to what the tape has");
        script.feeds(text);
        script.asks("load -1 ! 1", "load least ! 1", "load 41 ! 1", "load most ! 1", "fault 0 = -1", "load 40 = 0", "many 2 = 2");
        script.bare("4: the first n bytes alone");
        script.feeds(text);
        script.asks("load 10 = 0", "many 2 = 1", "list 0 0 = 1", "load 1 ! 1", "feed 0 0 0 0 0 = 20");
        script.bare("4: a byte too few");
        script.feeds(text);
        script.asks("load 9 ! 9", "fault 0 = 2", "fault 1 = 9", "many 2 = 0", "load 1 ! 1", "feed 0 0 0 0 0 = 20");
        script.bare("4: no byte");
        script.feeds("?");
        script.asks("load 0 = 0", "fault 0 = 0", "load 1 ! 1", "feed 0 0 0 0 0 = 20");
        script.bare("4: how many SIEVES");
        script.good("", 0, 0);
        script.good("sieve a from 1 by 1 many 2 lucky;", 1, 0);
    }

    /** With STATUS 0 all is what the text tells, with another one all stands. */
    private static void loadTakesOver() {
        script.begin("4: load() takes the place of all that was told",
            "sieve a from 1 by 2 many 9 lucky; sieve b from 5 by 1 many 9 flavius; list c 1; list d 2;");
        script.asks("round 0 = 3", "strike 0 7 = 3", "all 1 = 3", "load 21 ! 1", "many 1 = 3", "sieve 0 5 = 1", "load 20 = 0",
            "many 0 = 0", "many 1 = 0", "many 2 = 1", "list 0 0 = 7", "sieve 0 0 ! 2", "list 1 0 ! 2", "undo ! 5");
        script.loads("sieve a from 1 by 2 many 9 lucky;");
        script.asks("sieve 0 5 = 0", "sieve 0 4 = 9", "sieve 0 7 = 0", "gone 0 -1 = 0", "told 0 1 0 ! 5", "list 0 0 ! 2");
    }

    /** "Of the latest load() with STATUS 0 or 9, what 0: the FAULT (0 without one), 1: its place (NONE without). NONE for others, and ahead of any." */
    private static void fault() {
        script.bare("5: the latest load() with STATUS 0 or 9");
        script.asks("load 1 ! 1", "fault 0 = -1", "fault 1 = -1", "load 0 = 0", "fault 0 = 0", "fault 1 = -1", "fault -1 = -1",
            "fault 2 = -1", "fault most = -1", "fault least = -1");
        script.feeds("  ?");
        script.asks("load 3 ! 9", "fault 0 = 1", "fault 1 = 2", "fault 2 = -1", "fault -1 = -1", "load 1 ! 1", "fault 0 = 1",
            "fault 1 = 2", "load 0 = 0", "fault 0 = 0", "fault 1 = -1");
        script.feeds("list ;");
        script.asks("load 6 ! 9", "fault 0 = 2", "fault 1 = 5");
        script.feeds("?");
        script.asks("fault 0 = 2", "load 1 ! 9", "fault 0 = 1", "fault 1 = 0");
    }

    /** "SIEVES (what 0), ACTS that can be undone (1), LISTS (2) (1)." */
    private static void many() {
        script.begin("6: what 0 to 2",
            "sieve a from 1 by 1 many 9 flavius; sieve b from 1 by 1 many 9 flavius; sieve c from 1 by 1 many 9 lucky; list d 1;");
        script.asks("many 0 = 3", "many 1 = 0", "many 2 = 1", "many -1 ! 1", "many 3 ! 1", "many least ! 1", "many most ! 1",
            "round 0 = 4", "many 1 = 1", "drop 0 = 2", "many 0 = 2", "many 1 = 2", "many 2 = 1", "undo = 1", "many 0 = 3",
            "many 1 = 1");
    }

    /** "what 0: KIND .. 7: numbers struck by hand (1; 2)." */
    private static void sieve() {
        script.begin("7: what 0 to 7", "sieve a from 7 by 5 many 6 fixed 2 rounds 2; sieve b from 0 by 1 many 2 lucky;");
        script.asks("sieve 0 0 = 4", "sieve 0 1 = 7", "sieve 0 2 = 5", "sieve 0 3 = 6", "sieve 0 4 = 6", "sieve 0 5 = 0",
            "sieve 0 6 = 0", "sieve 0 7 = 0");
        script.asks("sieve 0 -1 ! 1", "sieve 0 8 ! 1", "sieve 0 least ! 1", "sieve 0 most ! 1", "sieve 2 8 ! 1", "sieve -1 -1 ! 1",
            "sieve 2 7 ! 2", "sieve -1 0 ! 2");
        script.asks("sieve 1 6 = 1", "round 0 = 3", "sieve 0 5 = 1", "sieve 0 6 = 0", "round 0 = 1", "sieve 0 5 = 2", "sieve 0 6 = 1",
            "sieve 0 4 = 2", "sieve 0 3 = 6", "strike 0 7 = 1", "sieve 0 4 = 1", "sieve 0 7 = 1", "sieve 0 5 = 2", "longer 0 5 = 2",
            "sieve 0 3 = 5", "sieve 0 7 = 0");
        String[] lawOf = {"lucky", "flavius", "ludic", "prime", "fixed 2 rounds 1", "told 2"};
        for (int kind = 0; kind < 6; kind++) {
            script.begin("7: KIND of " + lawOf[kind], "sieve a from 1 by 1 many 9 " + lawOf[kind] + ";");
            script.asks("sieve 0 0 = " + kind);
        }
    }

    /** "TOKENS, as long as they go": letters, digits and the SIGN end one another. */
    private static void tokens() {
        script.good("sieve a from 1by 2many 9lucky;list b 1;list c 2;", 1, 2);
        script.good("list a1;", 0, 1);
        script.faulty("listaa 1;", 2, 0);
        script.faulty("list a 1 2 33333;", 1, 11);
        script.faulty("list a fromm", 2, 7);
        script.faulty("list a 1?", 1, 8);
        script.faulty("?list a 1;", 1, 0);
        script.faulty("list a 1;?", 1, 9);
        script.faulty("list a 1;;", 2, 9);
    }

    /** "between them blanks (10, 32)": these two bytes and no other one. */
    private static void blanks() {
        script.good(" ", 0, 0);
        script.good("\n", 0, 0);
        script.good("\n \n list\na \n1\n;\n", 0, 1);
        script.good("   list   a   1   ;   ", 0, 1);
        char[] none = {0, 1, 9, 11, 13, 31, 33, 127, 128, 160, 255};
        for (char c : none) script.faulty("list" + c + "a 1;", 1, 4);
        char[] edges = {47, 58, 60, 64, 65, 90, 96, 123};
        for (char c : edges) script.faulty(" list a 1" + c + ";", 1, 9);
    }

    /** "WORDS (1 to 8 small letters; a longer one is no TOKEN)". */
    private static void words() {
        script.good("list a 1; list z 2; list az 3;", 0, 3);
        script.good("list abcdefgh 1; list zyxwvuts 2;", 0, 2);
        script.faulty("list abcdefghi 1;", 1, 5);
        script.faulty("list aaaaaaaaaaaaaaaaaaaaaaaa 1;", 1, 5);
        script.faulty("list A 1;", 1, 5);
        script.faulty("list aA 1;", 1, 6);
        script.faulty("list Za 1;", 1, 5);
        script.faulty("list a_ 1;", 1, 6);
    }

    /** "NUMBERS (1 to 4 digits; a longer one is none)". */
    private static void numbers() {
        script.good("list a 0; list b 9999; list c 0000 0001 009 0010;", 0, 3);
        script.asks("list 2 0 = 0", "list 2 1 = 1", "list 2 2 = 9", "list 2 3 = 10");
        script.faulty("list a 00000;", 1, 7);
        script.faulty("list a 10000;", 1, 7);
        script.faulty("list a 1 00002;", 1, 9);
        script.faulty("list a 99999999999999999999;", 1, 7);
        script.faulty("list a -1;", 1, 7);
        script.faulty("list a 1.5;", 1, 8);
    }

    /** "A TEXT: {LINE}. ({ } any number of times.)" and what a LINE has, TOKEN by TOKEN. */
    private static void lines() {
        String[] sieve = {"sieve", "a", "from", "1", "by", "1", "many", "9", "fixed", "2", "rounds", "3", ";"};
        String[] told = {"sieve", "a", "from", "1", "by", "1", "many", "9", "told", "2", ";"};
        String[] list = {"list", "a", "1", ";"};
        for (String[] line : new String[][] {sieve, told, list}) {
            script.good(String.join(" ", line), line == list ? 0 : 1, line == list ? 1 : 0);
            for (int i = 0; i < line.length; i++) {
                wrongAt(line, i, "by".equals(line[i]) ? "from" : "by");
                if (!line[i].equals(";")) wrongAt(line, i, ";");
                if (!Character.isDigit(line[i].charAt(0)) && !line[i].equals(";")) wrongAt(line, i, "7");
            }
        }
        script.faulty("sieve a from 1 by 1 many 9 lucky 7;", 2, 33);
        script.faulty("sieve a from 1 by 1 many 9 flavius 7;", 2, 35);
        script.faulty("sieve a from 1 by 1 many 9 ludic 7;", 2, 33);
        script.faulty("sieve a from 1 by 1 many 9 prime 7;", 2, 33);
        script.faulty("sieve a from 1 by 1 many 9 fixed 2 rounds 3 7;", 2, 44);
        script.faulty("sieve a from 1 by 1 many 9 rounds 3;", 2, 27);
        script.faulty("a", 2, 0);
        script.faulty("7", 2, 0);
        script.faulty("from", 2, 0);
    }

    private static void wrongAt(String[] line, int i, String token) {
        StringBuilder text = new StringBuilder();
        for (int j = 0; j < i; j++) text.append(line[j]).append(' ');
        int place = text.length();
        script.faulty(text + token, 2, place);
        if (i > 0) script.faulty(text.toString(), 2, place);
    }

    /** "NAMES are WORDS but sieve, from, .. list; no two things have one." */
    private static void names() {
        for (String word : "sieve from by many lucky flavius ludic prime fixed rounds told list".split(" ")) {
            script.faulty("list " + word + " 1;", 2, 5);
            script.faulty("sieve " + word + " from 1 by 1 many 2 lucky;", 2, 6);
            String ahead = word.substring(0, word.length() - 1);
            script.good("list " + ahead + " 1; list " + word + "s 1; list x" + word.substring(1) + " 1;", 0, 3);
            script.good("list " + ahead + "x 1; list s" + word + " 1; list " + word.substring(1) + " 1;", 0, 3);
        }
        sameNames();
    }

    private static void sameNames() {
        String sieve = "sieve a from 1 by 1 many 2 lucky;";
        script.faulty("list a 1;list a 1;", 4, 14);
        script.faulty("list a1;list a 1;", 4, 13);
        script.faulty("list a 1;list a\n1;", 4, 14);
        script.faulty("list abc 1;list abc 1;", 4, 16);
        script.faulty("list abcdefgh 1;list abcdefgh 1;", 4, 21);
        script.good("list x 1;list y 1;sieve z from 1 by 1 many 2 lucky;", 1, 2);
        script.good("list abcdefgh 1;list abcdefgi 1;list bbcdefgh 1;", 0, 3);
        script.good("list abcdefgh 1;list abcdefg 1;list bcdefgh 1;", 0, 3);
        script.faulty(sieve + "sieve a from", 4, 39);
        script.faulty(sieve + "list a 1;", 4, 38);
        script.faulty("list a 1;" + sieve, 4, 15);
        script.faulty("list b 1;list c 1;list a 1;" + sieve, 4, 33);
        script.good(sieve + "sieve b from 1 by 1 many 2 lucky; sieve c from 1 by 1 many 2 lucky; list aa 1; list ab 1; list ba 1;", 3, 3);
        script.faulty(sieve + "sieve b from 1 by 1 many 2 lucky; sieve c from 1 by 1 many 2 lucky; list aa 1; list c 1;", 4, 117);
    }

    /** "from: 0 to 999; by: 1 to 99; many: 2 to 600." "At most 4 SIEVES, numbered from 0 on as they are told." */
    private static void sieveNumbers() {
        script.good("sieve a from 0 by 1 many 2 lucky;", 1, 0);
        script.asks("number 0 1 = 0", "number 0 2 = 1", "number 0 3 ! 5");
        script.good("sieve a from 999 by 99 many 600 lucky;", 1, 0);
        script.asks("number 0 1 = 999", "number 0 600 = 60300", "number 0 601 ! 5");
        script.faulty("sieve a from 1000 by 1 many 2 lucky;", 3, 13);
        script.faulty("sieve a from 9999 by 1 many 2 lucky;", 3, 13);
        script.faulty("sieve a from 0 by 0 many 2 lucky;", 3, 18);
        script.faulty("sieve a from 0 by 100 many 2 lucky;", 3, 18);
        script.faulty("sieve a from 0 by 1 many 0 lucky;", 3, 25);
        script.faulty("sieve a from 0 by 1 many 1 lucky;", 3, 25);
        script.faulty("sieve a from 0 by 1 many 601 lucky;", 3, 25);
        String four = "list x 1;sieve a from 1 by 1 many 2 lucky;list y 1;sieve b from 2 by 1 many 2 flavius;"
            + "sieve c from 3 by 1 many 2 ludic;sieve d from 4 by 1 many 2 prime;";
        script.good(four, 4, 2);
        script.asks("sieve 0 1 = 1", "sieve 1 1 = 2", "sieve 2 1 = 3", "sieve 3 1 = 4", "sieve 4 1 ! 2", "sieve -1 1 ! 2");
        script.faulty(four + "sieve e from 5 by 1 many 2 lucky;", 5, four.length());
        script.faulty(four + " sieve", 5, four.length() + 1);
    }

    private static void laws() {
        String head = "sieve a from 1 by 1 many 9 ";
        for (String law : new String[] {"lucky", "flavius", "ludic", "prime"}) script.good(head + law + ";", 1, 0);
        for (String law : new String[] {"luckyy", "luck", "flaviu", "ludi", "primes", "fix", "tol", "tolds", "list", "a"}) {
            script.faulty(head + law + ";", 2, 27);
        }
    }

    /** "fixed: 2 to 99; rounds: 1 to 60." */
    private static void fixedNumbers() {
        String head = "sieve a from 1 by 1 many 600 fixed ";
        script.good(head + "2 rounds 1;", 1, 0);
        script.asks("all 0 = 1", "told 0 1 0 = 2");
        script.good(head + "99 rounds 60;", 1, 0);
        script.asks("all 0 = 60", "told 0 60 0 = 99");
        script.faulty(head + "0 rounds 1;", 3, 35);
        script.faulty(head + "1 rounds 1;", 3, 35);
        script.faulty(head + "100 rounds 1;", 3, 35);
        script.faulty(head + "2 rounds 0;", 3, 44);
        script.faulty(head + "2 rounds 61;", 3, 44);
    }

    /** "told: 1 to 12 GAPS, 2 to 999 each." "5 one too many: .. a 13th GAP". */
    private static void toldGaps() {
        String head = "sieve a from 1 by 1 many 600 told ";
        script.good(head + "2;", 1, 0);
        script.asks("all 0 = 1", "told 0 1 0 = 2");
        script.good(head + "2 999 3 4 5 6 7 8 9 10 11 12;", 1, 0);
        script.asks("all 0 = 12", "told 0 2 0 = 999", "told 0 12 0 = 12", "told 0 13 0 ! 5");
        script.faulty(head + ";", 2, 34);
        script.faulty(head + "0;", 3, 34);
        script.faulty(head + "1;", 3, 34);
        script.faulty(head + "1000;", 3, 34);
        script.faulty(head + "2 1;", 3, 36);
        script.faulty(head + "2 1000;", 3, 36);
        String twelve = head + "2 3 4 5 6 7 8 9 2 3 4 5";
        script.good(twelve + ";", 1, 0);
        script.faulty(twelve + " 2;", 5, 58);
        script.faulty(twelve + " 999;", 5, 58);
        script.faulty(twelve + " a", 2, 58);
        script.faulty(twelve, 2, 57);
        script.begin("1: the GAPS of a text ahead are over",
            "sieve a from 1 by 1 many 9 told 2 3 2 5; sieve b from 1 by 1 many 9 fixed 2 rounds 9;");
        script.asks("all 0 = 4", "load 20 = 0");
        script.loads("sieve a from 1 by 1 many 9 told 2; sieve b from 1 by 1 many 9 told 3 2;");
        script.asks("all 0 = 1", "sieve 0 6 = 1", "told 0 2 0 ! 5", "all 1 = 2", "sieve 1 6 = 1");
    }

    /** "At most 3 LISTS, numbered from 0 on likewise". */
    private static void lists() {
        String three = "list a 5;sieve s from 1 by 1 many 2 lucky;list b 6;list c 7;";
        script.good(three, 1, 3);
        script.asks("list 0 0 = 5", "list 1 0 = 6", "list 2 0 = 7", "list 3 0 ! 2", "list -1 0 ! 2");
        script.faulty(three + "list d 8;", 5, three.length());
        script.faulty(three + "  list", 5, three.length() + 2);
        script.good(three + "sieve d from 1 by 1 many 2 lucky;", 2, 3);
    }

    /** "1 to 10 numbers, each above the one ahead (0 to 9999)." "an 11th number of a LIST (at it)". */
    private static void listNumbers() {
        script.good("list a 0;", 0, 1);
        script.asks("list 0 -1 = 1", "list 0 0 = 0", "list 0 1 ! 5");
        script.good("list a 0 1 2 3 4 5 6 7 9998 9999;", 0, 1);
        script.asks("list 0 -1 = 10", "list 0 9 = 9999", "list 0 10 ! 5");
        script.faulty("list a;", 2, 6);
        script.faulty("list a 0 0;", 3, 9);
        script.faulty("list a 5 5;", 3, 9);
        script.faulty("list a 5 4;", 3, 9);
        script.good("list a 5 6;", 0, 1);
        script.faulty("list a 9999 9999;", 3, 12);
        script.faulty("list a 1 3 2;", 3, 11);
        script.faulty("list a 0 1 2 3 4 5 6 7 8 9 10;", 5, 27);
        script.faulty("list a 0 1 2 3 4 5 6 7 8 9 9999", 5, 27);
        script.faulty("list a 0 1 2 3 4 5 6 7 8 9", 2, 26);
        script.faulty("list a 0 1 2 3 4 5 6 7 8 9 b", 2, 27);
    }

    /** "of several the first along the text". */
    private static void faultsInOrder() {
        script.faulty("sieve a from 1000 by 0 many 1 lucky", 3, 13);
        script.faulty("sieve a from 1000 ?", 3, 13);
        script.faulty("sieve a from ? by 0", 1, 13);
        script.faulty("sieve a by ?", 2, 8);
        script.faulty("list a 2 1 ?", 3, 9);
        script.faulty("list a 1; list a ?", 4, 15);
        script.faulty("list a 1; list b 1; list c 1; list c ?", 5, 30);
        script.faulty("list a 1; list b 1; list c 1 ? list d 1;", 1, 29);
        script.faulty("list a 1;list a ;?", 4, 14);
    }

    /** "of one TOKEN the least kind": of one that is none, can't stand there, can't be, is had, is too many. */
    private static void faultsOfOneToken() {
        String told = "sieve a from 1 by 1 many 9 told 2 2 2 2 2 2 2 2 2 2 2 2 ";
        script.faulty(told + "1;", 3, 56);
        script.faulty(told + "0;", 3, 56);
        script.faulty(told + "1000;", 3, 56);
        script.faulty(told + "11111;", 1, 56);
        script.faulty("list a 0 1 2 3 4 5 6 7 8 9 9;", 3, 27);
        script.faulty("list a 0 1 2 3 4 5 6 7 8 9 0;", 3, 27);
        script.faulty("list a 0 1 2 3 4 5 6 7 8 9 99999;", 1, 27);
        script.faulty("list a 1; list b 1; list c 1; lists", 2, 30);
        script.faulty("list a 1; list b 1; list c 1; listlistl", 1, 30);
        script.faulty("list list 1; list list 1;", 2, 5);
        script.faulty("sieve 9999", 2, 6);
        script.faulty("0", 2, 0);
        script.faulty("list 0", 2, 5);
        script.faulty("sieve a 1000", 2, 8);
        script.faulty("sieve a from 1 by 1 many 9 lucky 0", 2, 33);
        script.faulty("sieve a from 1 by 1 many 9 fixed 2 rounds 1 61", 2, 44);
        script.faulty("list a 1; list b 1; list c 1; list", 5, 30);
    }

    /** "(the end of the text: its length)". */
    private static void endOfText() {
        script.faulty("list", 2, 4);
        script.faulty("list ", 2, 5);
        script.faulty("list \n ", 2, 7);
        script.faulty("list a", 2, 6);
        script.faulty("list a 1", 2, 8);
        script.faulty("sieve a from 1 by 1 many 9 told 2 ", 2, 34);
        script.faulty(" ".repeat(596) + "list", 2, 600);
        script.good(" ".repeat(600), 0, 0);
        script.good(" ".repeat(591) + "list a 1;", 0, 1);
    }
}
