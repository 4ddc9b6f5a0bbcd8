/** Promises 1 to 7 and the terms' paragraph 1: the tape, the text, its faults. */
public final class TextTest {
    private static final String LINE = "sieve a from 1 by 2 many 10 lucky ;";
    private static final Check check = new Check("TextTest");

    public static void main(String[] args) {
        newObject();
        tape();
        loading();
        goodTexts();
        noToken();
        wrongToken();
        wrongNumber();
        takenNames();
        oneTooMany();
        counts();
        check.end();
    }

    private static void newObject() {
        SieveHouse x = check.house;
        check.expect("status", x.status(), 0);
        check.expect("NONE", SieveHouse.NONE, -1);
        check.gives("many(0)", x.many(0), 0);
        check.expect("fault(0)", x.fault(0), -1);
        check.expect("fault(1)", x.fault(1), -1);
        check.refuses("out(0)", x.out(0), 5);
        check.refuses("undo", x.undo(), 5);
    }

    private static void tape() {
        check.house = new SieveHouse();
        SieveHouse x = check.house;
        for (int i = 1; i <= 30; i++) check.expect("feed", x.feed(0x20202020, 0x20202020, 0x20202020, 0x20202020, 0x20202020), 20 * i);
        check.expect("feed on a full tape", x.feed(0, 0, 0, 0, 0), -1);
        check.expect("status", x.status(), 0);
        check.refuses("load(601)", x.load(601), 1);
        check.refuses("load(-1)", x.load(-1), 1);
        check.expect("fault ahead of any load", x.fault(0), -1);
        check.gives("load(600)", x.load(600), 0);
        check.refuses("load on an empty tape", x.load(1), 1);
        check.expect("the highest byte first", x.feed(0x3b3c0000, 0, 0, 0, 0), 20);
        check.refuses("load", x.load(20), 9);
        check.expect("fault(0)", x.fault(0), 2);
        check.expect("fault(1)", x.fault(1), 0);
    }

    private static void loading() {
        check.begin("");
        SieveHouse x = check.house;
        check.gives("load of nothing", x.load(0), 0);
        check.expect("fault(0)", x.fault(0), 0);
        check.expect("fault(1)", x.fault(1), -1);
        check.expect("fault(2)", x.fault(2), -1);
        check.expect("fault(-1)", x.fault(-1), -1);
        check.gives("load", check.load(LINE), 1);
        check.gives("round", x.round(0), 3);
        check.gives("acts", x.many(1), 1);
        check.feed(LINE);
        check.refuses("load above the tape", x.load(41), 1);
        check.expect("fault stays", x.fault(0), 0);
        check.expect("the tape stays", x.feed(0, 0, 0, 0, 0), 60);
        check.refuses("load", x.load(60), 9);
        check.expect("the tape is empty", x.feed(0, 0, 0, 0, 0), 20);
        check.refuses("a status stays behind calls without one: load", x.load(21), 1);
        check.expect("fault(0)", x.fault(0), 1);
        check.expect("fault(1)", x.fault(1), 35);
        check.expect("status", x.status(), 1);
        check.gives("the sieve is as it was", x.sieve(0, 5), 1);
        check.gives("acts", x.many(1), 1);
        x.load(0);
        check.gives("no sieves", x.many(0), 0);
        check.gives("no acts", x.many(1), 0);
        check.refuses("undo", x.undo(), 5);
    }

    private static void goodTexts() {
        check.begin("sieve a from 1by 2many 10\nlucky;list b 3\n");
        check.expect("a sign is missing", check.house.fault(0), 2);
        check.gives("tokens without blanks", check.load("sieve a from 1by 2many10lucky;list b3;"), 1);
        check.gives("lists", check.house.many(2), 1);
        check.gives("blanks all over", check.load("\n\n  sieve\na from\n999 by 99 many 600 fixed 99 rounds 60 ;  \n"), 1);
        check.gives("from", check.house.sieve(0, 1), 999);
        check.gives("by", check.house.sieve(0, 2), 99);
        check.gives("many", check.house.sieve(0, 3), 600);
        check.gives("the last number", check.house.number(0, 600), 999 + 99 * 599);
        check.gives("zeros ahead", check.load("sieve abcdefgh from 0000 by 0001 many 0002 told 0002 0999;"), 1);
        check.gives("all sieves, all lists", check.load("sieve a from 0 by 1 many 2 lucky;sieve b from 0 by 1 many 2 flavius;"
                + "sieve c from 0 by 1 many 2 ludic;sieve d from 0 by 1 many 2 prime;"
                + "list e 0 1 2 3 4 5 6 7 8 9999;list f 0;list g 9998 9999;"), 4);
        check.gives("lists", check.house.many(2), 3);
        check.gives("ten numbers", check.house.list(0, -1), 10);
        check.gives("one alone", check.load("list a 5;"), 0);
        check.gives("lists", check.house.many(2), 1);
        check.gives("one number", check.house.list(0, -1), 1);
        check.gives("it", check.house.list(0, 0), 5);
        check.gives("three gaps", check.load("sieve a from 0 by 1 many 9 told 7 7 7;"), 1);
        check.gives("three rounds", check.house.all(0), 3);
        check.gives("two gaps", check.load("sieve a from 0 by 1 many 9 told 7 7;"), 1);
        check.gives("two rounds", check.house.all(0), 2);
        check.gives("twelve gaps", check.load("sieve a from 0 by 1 many 2 told 2 2 2 2 2 2 2 2 2 2 2 999;"), 1);
    }

    private static void noToken() {
        check.begin("");
        check.faulty("abcdefghi", 1, 0);
        check.faulty("Sieve", 1, 0);
        check.faulty("sieve\ta", 1, 5);
        check.faulty("list a 12345 ;", 1, 7);
        check.faulty("list a 1 ,", 1, 9);
        check.faulty("sieve a from 1 by 2 many 10 verylucky ;", 1, 28);
        check.faulty("list a 1 ; \u00e9", 1, 11);
        check.faulty("list a -1 ;", 1, 7);
        check.faulty("list a 1 2 3 4 5 6 7 8 9 10 11111 ;", 1, 28);
        check.faulty("sieve from 1:", 2, 6);
        check.faulty("list a 1 ; \r", 1, 11);
    }

    private static void wrongToken() {
        check.begin("");
        check.faulty("lucky", 2, 0);
        check.faulty("1", 2, 0);
        check.faulty(" ;", 2, 1);
        check.faulty("sieve", 2, 5);
        check.faulty("sieve  ", 2, 7);
        check.faulty("sieve 1 from", 2, 6);
        for (String word : "sieve from by many lucky flavius ludic prime fixed rounds told list".split(" ")) {
            check.faulty("list " + word + " 1 ;", 2, 5);
            check.faulty("sieve " + word + " from 1 by 2 many 3 lucky ;", 2, 6);
        }
        check.gives("a name that begins like a word", check.load("list lists 1 ; list fro 2 ; list bys 1 ;"), 0);
        check.faulty("sieve a by", 2, 8);
        check.faulty("sieve a from by", 2, 13);
        check.faulty("sieve a from 1 many", 2, 15);
        check.faulty("sieve a from 1 by ;", 2, 18);
        check.faulty("sieve a from 1 by 2 many lucky", 2, 25);
        check.faulty("sieve a from 1 by 2 many 3 ;", 2, 27);
        check.faulty("sieve a from 1 by 2 many 3 list", 2, 27);
        check.faulty("sieve a from 1 by 2 many 3 lucky", 2, 32);
        check.faulty("sieve a from 1 by 2 many 3 lucky 3;", 2, 33);
        check.faulty("sieve a from 1 by 2 many 3 fixed 3;", 2, 34);
        check.faulty("sieve a from 1 by 2 many 3 fixed 3 rounds;", 2, 41);
        check.faulty("sieve a from 1 by 2 many 3 fixed 3 rounds 2 2;", 2, 44);
        check.faulty("sieve a from 1 by 2 many 3 told;", 2, 31);
        check.faulty("sieve a from 1 by 2 many 3 told 2 a", 2, 34);
        check.faulty("list a;", 2, 6);
        check.faulty("list a 1 b", 2, 9);
        check.faulty("list a 1 ;;", 2, 10);
        check.faulty("list ;", 2, 5);
        check.faulty("list a 1 list b 2;", 2, 9);
        check.faulty("gist a 1;", 2, 0);
        check.faulty("sieve a from 1 by 2 many 3 bucky;", 2, 27);
        check.faulty("sieve a from 1 by 2 many 3 luck;", 2, 27);
        check.faulty(LINE + " sieve", 2, 41);
    }

    private static void wrongNumber() {
        check.begin("");
        check.faulty("sieve a from 1000 by 1 many 2 lucky;", 3, 13);
        check.faulty("sieve a from 0 by 0 many 2 lucky;", 3, 18);
        check.faulty("sieve a from 0 by 100 many 2 lucky;", 3, 18);
        check.faulty("sieve a from 0 by 1 many 1 lucky;", 3, 25);
        check.faulty("sieve a from 0 by 1 many 601 lucky;", 3, 25);
        check.faulty("sieve a from 0 by 1 many 2 fixed 1 rounds 1;", 3, 33);
        check.faulty("sieve a from 0 by 1 many 2 fixed 100 rounds 1;", 3, 33);
        check.faulty("sieve a from 0 by 1 many 2 fixed 2 rounds 0;", 3, 42);
        check.faulty("sieve a from 0 by 1 many 2 fixed 2 rounds 61;", 3, 42);
        check.faulty("sieve a from 0 by 1 many 2 told 1;", 3, 32);
        check.faulty("sieve a from 0 by 1 many 2 told 2 1000;", 3, 34);
        check.faulty("list a 2 2;", 3, 9);
        check.faulty("list a 2 1;", 3, 9);
        check.faulty("list a 9999 9999;", 3, 12);
    }

    private static void takenNames() {
        check.begin("");
        check.faulty("list a 1; list a 2;", 4, 15);
        check.faulty(LINE + "list a 2;", 4, 40);
        check.faulty("list b 1;" + LINE + " sieve b from", 4, 51);
        check.gives("longer and shorter names are others", check.load("list a 1; list ab 1; list b 1;"), 0);
        check.faulty("list abc 1; list abc 2;", 4, 17);
        check.faulty("list a 1; list b 1; sieve c from 0 by 1 many 2 lucky; sieve a", 4, 60);
        check.faulty("list a 1; list b 1; sieve c from 0 by 1 many 2 lucky; list c", 4, 59);
        check.faulty("list a 1; list b 1; sieve c from 0 by 1 many 2 lucky; list b", 4, 59);
        check.gives("longer ahead of shorter, the last letters", check.load("list abz 1; list ab 1; list aby 1;"), 0);
        check.expect("no fault", check.house.fault(0), 0);
        check.expect("nor its place", check.house.fault(1), -1);
        check.gives("names are of one text alone", check.load("list a 1;"), 0);
    }

    private static void oneTooMany() {
        check.begin("");
        StringBuilder four = new StringBuilder();
        for (char name = 'a'; name <= 'd'; name++) four.append("sieve ").append(name).append(" from 0 by 1 many 2 lucky;");
        check.gives("four sieves", check.load(four.toString()), 4);
        check.faulty(four + " sieve a", 5, four.length() + 1);
        String three = "list a 1;list b 1;list c 1;";
        check.faulty(three + "list a", 5, 27);
        check.faulty(three + "lists", 2, 27);
        String told = "sieve a from 0 by 1 many 2 told 2 2 2 2 2 2 2 2 2 2 2 2 ";
        check.faulty(told + "2;", 5, 56);
        check.faulty(told + "1;", 3, 56);
        check.faulty(told + "1000;", 3, 56);
        check.faulty(told + "12345;", 1, 56);
        check.faulty("list a 0 1 2 3 4 5 6 7 8 9 10;", 5, 27);
        check.faulty("list a 0 1 2 3 4 5 6 7 8 9 9;", 3, 27);
        check.faulty("list a 0 1 2 3 4 5 6 7 8 9999 9999;", 3, 30);
        check.gives("the sieves of the last good text stand", check.house.many(0), 4);
    }

    private static void counts() {
        check.begin("sieve a from 3 by 4 many 5 prime; sieve b from 0 by 1 many 9 fixed 2 rounds 1; list c 1 5 9;");
        SieveHouse x = check.house;
        check.gives("many(0)", x.many(0), 2);
        check.gives("many(1)", x.many(1), 0);
        check.gives("many(2)", x.many(2), 1);
        check.refuses("many(3)", x.many(3), 1);
        check.refuses("many(-1)", x.many(-1), 1);
        int[] due = {3, 3, 4, 5, 5, 0, 1, 0};
        for (int what = 0; what < 8; what++) check.gives("sieve(0, " + what + ")", x.sieve(0, what), due[what]);
        check.gives("round", x.round(1), 4);
        check.gives("strike", x.strike(1, 8), 5);
        int[] then = {4, 0, 1, 9, 4, 1, 1, 1};
        for (int what = 0; what < 8; what++) check.gives("sieve(1, " + what + ")", x.sieve(1, what), then[what]);
        check.refuses("sieve(0, 8)", x.sieve(0, 8), 1);
        check.refuses("sieve(0, -1)", x.sieve(0, -1), 1);
        check.refuses("sieve(2, 8)", x.sieve(2, 8), 1);
        check.refuses("sieve(2, 0)", x.sieve(2, 0), 2);
        check.refuses("sieve(-1, 0)", x.sieve(-1, 0), 2);
    }
}
