/** Promises 46 to 56: like rows, rows without a common number, one number, 600; the first and the last that can be asked. */
public final class ComparedBoundsTest {
    /** Done: a: 1 3 7 9 13 15 21 25 31 33 37. b: 1 2 3 5 7 11 13 17 19. c: 5 alone. d: 0 to 599. */
    private static final String FOUR = "sieve a from 1 by 2 many 20 lucky; sieve b from 1 by 1 many 20 prime; sieve c from 5 by 3 many 2 flavius;"
        + "sieve d from 0 by 1 many 600 flavius; list e 7 9 13; list f 0; list g 33 37 9999;";
    private static final Script script = new Script("ComparedBoundsTest");

    public static void main(String[] args) {
        both();
        bothAlone();
        lead();
        leadAtNought();
        turns();
        alike();
        alikeBehindShorter();
        through();
        list();
        fits();
        fitsTogether();
        guess();
        guessWhenDone();
        meets();
        apart();
        apartByOne();
        print();
        printRuns();
        out();
        greatest();
        script.end();
    }

    private static void four(String sentence) {
        script.begin(sentence, FOUR);
        script.asks("all 0 = 3", "all 1 = 2", "round 2 = 1");
    }

    /** Two SIEVES, each of which may not be there; what can't be is told ahead of that. */
    private static void noSieves(String call, String args, String wrongArgs) {
        for (String no : new String[] {"4", "-1", "least", "most"}) {
            script.asks(call + " 0 " + no + args + " ! 2", call + " " + no + " 0" + args + " ! 2", call + " " + no + " " + no + args + " ! 2");
            if (!wrongArgs.isEmpty()) script.asks(call + " 0 " + no + wrongArgs + " ! 1", call + " " + no + " 0" + wrongArgs + " ! 1");
        }
    }

    /** "what 0: how many numbers are in both ROWS, 1: in the first alone, 2: in the other one alone, 3: the least that is in one alone (5: none) (1; 2)". */
    private static void both() {
        four("46: what 0 to 3");
        script.asks("both 0 1 0 = 4", "both 0 1 1 = 7", "both 0 1 2 = 5", "both 0 1 3 = 2", "both 0 1 -1 ! 1", "both 0 1 4 ! 1",
            "both 0 1 least ! 1", "both 0 1 most ! 1", "both 0 0 0 = 11", "both 0 0 1 = 0", "both 0 0 2 = 0", "both 0 0 3 ! 5",
            "both 0 2 0 = 0", "both 0 2 1 = 11", "both 0 2 2 = 1", "both 0 2 3 = 1", "both 2 0 3 = 1", "both 2 2 3 ! 5",
            "both 1 2 0 = 1", "both 1 2 2 = 0", "both 2 1 1 = 0", "both 0 3 0 = 11", "both 0 3 1 = 0", "both 0 3 2 = 589",
            "both 0 3 3 = 0", "both 3 0 3 = 0", "both 3 3 0 = 600");
        noSieves("both", " 0", " 4");
        noSieves("both", " 3", " -1");
    }

    private static void bothAlone() {
        script.begin("46: the least in one alone, at both ends of both",
            "sieve a from 4 by 1 many 9 flavius; sieve b from 4 by 1 many 9 flavius;");
        script.asks("both 0 1 3 ! 5", "longer 1 10 = 10", "both 0 1 3 = 13", "both 1 0 3 = 13", "both 0 1 1 = 0", "both 0 1 2 = 1",
            "longer 0 11 = 11", "both 0 1 3 = 14", "both 0 1 1 = 1", "both 0 1 2 = 0", "strike 0 4 = 1", "both 0 1 3 = 4",
            "both 1 0 3 = 4", "strike 1 4 = 1", "both 0 1 3 = 14", "strike 1 6 = 2", "strike 0 5 = 1", "both 0 1 3 = 5",
            "both 1 0 3 = 5", "both 0 1 0 = 7");
    }

    /** "what 0: the greatest, from n 0 on, 1: the first n with it, 2: the least, 3: how often it TURNS, 4: LEAD at last (1; 2). (STATUS tells NONE from -1.)" */
    private static void lead() {
        four("47: what 0 to 4");
        script.asks("lead 0 1 0 = 2", "lead 0 1 1 = 37", "lead 0 1 2 = -3", "lead 0 1 3 = 1", "lead 0 1 4 = 2", "lead 0 1 -1 ! 1",
            "lead 0 1 5 ! 1", "lead 0 1 least ! 1", "lead 0 1 most ! 1", "lead 1 0 0 = 3", "lead 1 0 1 = 19", "lead 1 0 2 = -2",
            "lead 1 0 3 = 1", "lead 1 0 4 = -2", "lead 0 0 0 = 0", "lead 0 0 1 = 0", "lead 0 0 2 = 0", "lead 0 0 3 = 0",
            "lead 0 0 4 = 0");
        noSieves("lead", " 0", " 5");
        noSieves("lead", " 4", " -1");
    }

    /** "from n 0 on": LEAD at 0 is the first one looked at. */
    private static void leadAtNought() {
        four("47: a number 0; -1 is no NONE");
        script.asks("lead 3 2 0 = 599", "lead 3 2 1 = 599", "lead 3 2 2 = 1", "lead 3 2 3 = 0", "lead 3 2 4 = 599", "lead 2 3 0 = -1",
            "lead 2 3 1 = 0", "lead 2 3 2 = -599", "lead 2 3 3 = 0", "lead 2 3 4 = -599", "status = 0", "lead 2 0 0 = 0",
            "lead 2 0 1 = 0", "lead 2 0 2 = -10", "lead 0 2 0 = 10", "lead 0 2 1 = 37", "lead 0 2 2 = 0", "longer 3 2 = 2",
            "lead 3 2 0 = 2", "lead 3 2 1 = 1", "lead 3 2 2 = 1", "lead 3 2 4 = 1", "lead 2 3 4 = -1");
        script.begin("47: both have 0", "sieve a from 0 by 2 many 3 flavius; sieve b from 0 by 3 many 3 flavius;");
        script.asks("lead 0 1 0 = 1", "lead 0 1 1 = 2", "lead 0 1 2 = 0", "lead 0 1 3 = 0", "lead 0 1 4 = 0", "lead 1 0 0 = 0",
            "lead 1 0 1 = 0", "lead 1 0 2 = -1");
    }

    /** "if LEAD at n is above 0 and the last one that was not 0 ahead of it (from 0 on) was below, or the other way round". */
    private static void turns() {
        String two = "sieve a from 0 by 1 many 12 flavius; sieve b from 0 by 1 many 12 flavius;";
        script.begin("47: above, below, above, with 0 between", two);
        // a: 0 5 6 11, b: 2 3 8 9: LEAD 1 0 -1 0 1 0 -1 0 at 0 2 3 5 6 8 9 11
        script.asks("strike 0 1 = 2", "strike 0 2 = 2", "strike 0 3 = 2", "strike 0 4 = 2", "strike 0 7 = 4", "strike 0 8 = 4",
            "strike 0 9 = 4", "strike 0 10 = 4", "strike 1 0 = 1", "strike 1 1 = 1", "strike 1 4 = 3", "strike 1 5 = 3",
            "strike 1 6 = 3", "strike 1 7 = 3", "strike 1 10 = 5", "strike 1 11 = 5");
        script.asks("lead 0 1 0 = 1", "lead 0 1 1 = 0", "lead 0 1 2 = -1", "lead 0 1 3 = 3", "lead 0 1 4 = 0", "lead 1 0 0 = 1",
            "lead 1 0 1 = 3", "lead 1 0 2 = -1", "lead 1 0 3 = 3", "lead 1 0 4 = 0");
        // a: 0 5 11
        script.asks("strike 0 6 = 3", "lead 0 1 3 = 1", "lead 0 1 4 = -1", "lead 0 1 2 = -2", "lead 1 0 3 = 1");
        // a: 5 11, so that b leads from 2 on and is level never again
        script.asks("strike 0 0 = 1", "lead 0 1 0 = 0", "lead 0 1 1 = 0", "lead 0 1 3 = 0", "lead 0 1 2 = -3", "lead 0 1 4 = -2");
        script.begin("47: above, 0, above again is no turn", two);
        // a: 0 4, b: 2 6
        for (int n : new int[] {1, 2, 3}) script.asks("strike 0 " + n + " = 2");
        for (int n = 5; n < 12; n++) script.asks("strike 0 " + n + " = 3");
        script.asks("strike 1 0 = 1", "strike 1 1 = 1", "strike 1 3 = 2", "strike 1 4 = 2", "strike 1 5 = 2");
        for (int n = 7; n < 12; n++) script.asks("strike 1 " + n + " = 3");
        script.asks("lead 0 1 3 = 0", "lead 0 1 0 = 1", "lead 0 1 1 = 0", "lead 0 1 2 = 0", "lead 0 1 4 = 0", "lead 1 0 3 = 0",
            "lead 1 0 0 = 0", "lead 1 0 2 = -1");
    }

    /** "The ROUND up to which two SIEVES' GAPS are alike (0: the first ones are not; of ROUNDS both have done) (2)." */
    private static void alike() {
        four("48: none alike, none done, all alike");
        script.asks("alike 0 1 = 0", "alike 1 0 = 0", "alike 0 0 = 3", "alike 0 3 = 0", "alike 3 0 = 0", "alike 3 3 = 0",
            "alike 1 2 = 1", "alike 2 1 = 1");
        noSieves("alike", "", "");
        script.begin("48: of ROUNDS both have done",
            "sieve a from 1 by 1 many 40 flavius; sieve b from 0 by 7 many 9 told 2 3 4 9 6; sieve c from 5 by 1 many 9 told 9 3 4;");
        script.asks("alike 0 1 = 0", "round 0 = 20", "alike 0 1 = 0", "round 1 = 4", "alike 0 1 = 1", "round 0 = 6", "alike 0 1 = 1",
            "round 1 = 1", "alike 0 1 = 2", "round 0 = 3", "round 1 = 1", "alike 0 1 = 3", "round 0 = 2", "alike 0 1 = 3",
            "round 1 = 0", "alike 0 1 = 3", "round 0 = 1", "round 1 = 0", "alike 0 1 = 3", "alike 1 0 = 3", "all 2 = 3",
            "alike 0 2 = 0", "undo = 7", "undo = 6", "undo = 5", "alike 0 1 = 3", "undo = 4", "alike 0 1 = 3", "undo = 3",
            "alike 0 1 = 3", "undo = 2", "alike 0 1 = 2");
    }

    /** A shorter ROW may have fewer ROUNDS: those it had are not done. */
    private static void alikeBehindShorter() {
        script.begin("48: ROUNDS that longer() left out", "sieve a from 1 by 1 many 20 flavius; sieve b from 1 by 1 many 20 flavius;");
        script.asks("all 0 = 4", "all 1 = 4", "alike 0 1 = 4", "longer 0 4 = 2", "sieve 0 5 = 1", "alike 0 1 = 1", "alike 1 0 = 1",
            "undo = 2", "alike 0 1 = 4", "longer 1 2 = 1", "alike 0 1 = 1", "longer 0 3 = 2", "alike 0 1 = 1", "alike 1 0 = 1");
    }

    /** "the k-th number (from 0 on), or (k NONE) how many there are (1: k below NONE; 2; 5: not so many)". */
    private static void through() {
        four("49: k from NONE to the last");
        script.asks("through 0 1 -1 = 6", "through 0 1 0 = 1", "through 0 1 5 = 37", "through 0 1 6 ! 5", "through 0 1 most ! 5",
            "through 0 1 -2 ! 1", "through 0 1 least ! 1", "through 1 0 -1 = 4", "through 1 0 3 = 19", "through 1 0 4 ! 5",
            "through 0 2 -1 = 1", "through 0 2 0 = 13", "through 0 2 1 ! 5", "through 2 0 -1 = 1", "through 2 0 0 = 5",
            "through 2 2 -1 = 0", "through 2 2 0 ! 5", "through 0 3 -1 = 11", "through 0 3 0 = 1", "through 0 3 10 = 37",
            "through 0 3 11 ! 5", "through 3 3 -1 = 599", "through 3 3 0 = 0", "through 3 3 598 = 598", "through 3 3 599 ! 5",
            "through 3 0 -1 = 11", "through 3 0 0 = 0", "through 3 0 10 = 36");
        noSieves("through", " -1", " -2");
        script.begin("49: the last PLACE, and the one behind it",
            "sieve a from 0 by 1 many 5 flavius; sieve b from 5 by 1 many 2 flavius; sieve c from 6 by 1 many 2 flavius;");
        script.asks("through 0 1 -1 = 1", "through 0 1 0 = 4", "through 0 2 -1 = 0", "through 0 2 0 ! 5");
    }

    /** "its i-th number (from 0 on), or (i NONE) how many (1: i below NONE; 2; 5: not so many)". */
    private static void list() {
        four("50: i from NONE to the last, LISTS 0 to 2");
        script.asks("list 0 -1 = 3", "list 0 0 = 7", "list 0 2 = 13", "list 0 3 ! 5", "list 0 most ! 5", "list 0 -2 ! 1",
            "list 0 least ! 1", "list 1 -1 = 1", "list 1 0 = 0", "list 1 1 ! 5", "list 2 2 = 9999", "list 2 3 ! 5", "list 3 0 ! 2",
            "list -1 0 ! 2", "list most -1 ! 2", "list least 0 ! 2", "list 3 -2 ! 1", "list -1 -2 ! 1", "list 3 9 ! 2");
        script.begin("50: one LIST, no LIST of a text ahead", "list a 1 2; list b 3;");
        script.loads("kept 7;");
        script.asks("list 1 0 = 3");
        script.loads("list a 4 5;");
        script.asks("list 0 0 = 4", "list 0 2 ! 5", "list 1 0 ! 2", "list 1 -1 ! 2");
    }

    /** "what 0: how many of its numbers are in the ROW, 1: the first that is not (5: all are), 2: 1 if all are, at PLACES next to each other, else 0 (1; 2)". */
    private static void fits() {
        four("51: what 0 to 2");
        script.asks("fits 0 0 0 = 3", "fits 0 0 1 ! 5", "fits 0 0 2 = 1", "fits 0 0 -1 ! 1", "fits 0 0 3 ! 1", "fits 0 0 least ! 1",
            "fits 0 0 most ! 1", "fits 0 1 0 = 0", "fits 0 1 1 = 0", "fits 0 1 2 = 0", "fits 3 1 0 = 1", "fits 3 1 1 ! 5",
            "fits 3 1 2 = 1", "fits 0 2 0 = 2", "fits 0 2 1 = 9999", "fits 0 2 2 = 0", "fits 1 0 0 = 2", "fits 1 0 1 = 9",
            "fits 1 0 2 = 0", "fits 2 0 0 = 0", "fits 2 0 1 = 7", "fits 2 0 2 = 0", "fits 3 2 0 = 2", "fits 3 2 1 = 9999");
        for (String no : new String[] {"4", "-1", "least", "most"}) script.asks("fits " + no + " 0 0 ! 2", "fits " + no + " 0 3 ! 1", "fits " + no + " 3 0 ! 2");
        for (String no : new String[] {"3", "-1", "least", "most"}) script.asks("fits 0 " + no + " 0 ! 2", "fits 0 " + no + " -1 ! 1");
    }

    private static void fitsTogether() {
        script.begin("51: at the first PLACES, at the last, with one between",
            "sieve a from 3 by 1 many 5 flavius; list b 3 4; list c 6 7; list d 3 5;");
        script.asks("fits 0 0 2 = 1", "fits 0 1 2 = 1", "fits 0 2 2 = 0", "strike 0 4 = 2", "fits 0 0 2 = 0", "fits 0 0 0 = 1",
            "fits 0 0 1 = 4", "fits 0 2 2 = 1", "strike 0 7 = 4", "fits 0 1 2 = 0", "fits 0 1 1 = 7", "strike 0 3 = 1",
            "fits 0 2 1 = 3", "fits 0 2 2 = 0");
        script.begin("51: the whole ROW, one more at its head, one more at its end",
            "sieve a from 3 by 1 many 3 flavius; list b 3 4 5; list c 2 3 4; list d 4 5 6;");
        script.asks("fits 0 0 2 = 1", "fits 0 1 2 = 0", "fits 0 1 1 = 2", "fits 0 2 2 = 0", "fits 0 2 1 = 6");
        script.begin("51: ten numbers, one number", "sieve a from 0 by 1 many 10 flavius; list b 0 1 2 3 4 5 6 7 8 9; list c 9;");
        script.asks("fits 0 0 0 = 10", "fits 0 0 1 ! 5", "fits 0 0 2 = 1", "fits 0 1 2 = 1", "strike 0 9 = 10", "fits 0 0 0 = 9",
            "fits 0 0 1 = 9", "fits 0 0 2 = 0", "fits 0 1 2 = 0");
    }

    /** "The first SIEVE that, when it is DONE, would have a LIST at PLACES next to each other (2; 5: none)." */
    private static void guess() {
        script.begin("52: the first, the last, none",
            "sieve a from 1 by 2 many 20 lucky; sieve b from 1 by 1 many 20 prime; list c 7 9 13; list d 17 19; list e 1 7;");
        script.asks("guess 0 = 0", "guess 1 = 1", "guess 2 ! 5", "guess 3 ! 2", "guess -1 ! 2", "guess least ! 2", "guess most ! 2",
            "sieve 0 5 = 0", "sieve 0 4 = 20", "sieve 1 5 = 0", "many 1 = 0");
        script.asks("make 1 1 1 40 = 2", "make 1 9 8 2 = 3", "guess 2 ! 5", "drop 0 = 3", "guess 0 ! 5", "guess 1 = 0", "undo = 2",
            "guess 0 = 0", "strike 0 3 = 2", "guess 2 ! 5");
        script.begin("52: of several the first; each when it is DONE",
            "sieve a from 1 by 1 many 9 told 2 2; sieve b from 1 by 1 many 9 told 2; sieve c from 1 by 1 many 9 told 2; list d 1 5 9; list e 1 3 5; list f 1 2;");
        script.asks("guess 0 = 0", "guess 1 = 1", "guess 2 ! 5", "round 1 = 4", "guess 1 = 1", "drop 1 = 2", "guess 1 = 1",
            "drop 1 = 1", "guess 1 ! 5", "drop 0 = 0", "guess 0 ! 5", "guess 3 ! 2");
        script.begin("52: a LIST, no SIEVE", "list a 1;");
        script.asks("guess 0 ! 5", "guess 1 ! 2");
    }

    private static void guessWhenDone() {
        script.begin("52: a SIEVE that is DONE; one that hands changed",
            "sieve a from 0 by 1 many 4 lucky; list b 0 1 2 3; list c 0 2; list d 3;");
        script.asks("guess 0 = 0", "guess 1 ! 5", "guess 2 = 0", "sieve 0 6 = 1", "strike 0 1 = 2", "sieve 0 6 = 0", "fits 0 1 2 = 1",
            "guess 0 ! 5", "guess 1 ! 5", "guess 2 = 0");
    }

    /** "How many times .. n together .., or (what 1) the first SIEVE's less the other one's is n (2; 1)." */
    private static void meets() {
        four("53: what 0 and 1, any n");
        script.asks("meets 0 1 2 0 = 1", "meets 0 1 1 0 = 0", "meets 0 1 4 0 = 2", "meets 0 1 56 0 = 1", "meets 0 1 57 0 = 0",
            "meets 0 1 0 0 = 0", "meets 0 1 -2 0 = 0", "meets 0 1 least 0 = 0", "meets 0 1 most 0 = 0", "meets 0 1 36 1 = 1",
            "meets 0 1 37 1 = 0", "meets 0 1 -18 1 = 1", "meets 0 1 -19 1 = 0", "meets 0 1 0 1 = 4", "meets 0 1 least 1 = 0",
            "meets 0 1 most 1 = 0", "meets 0 1 4 -1 ! 1", "meets 0 1 4 2 ! 1", "meets 0 1 4 least ! 1", "meets 0 1 4 most ! 1",
            "meets 0 0 0 1 = 11", "meets 0 0 2 0 = 1", "meets 0 0 4 0 = 2", "meets 2 2 10 0 = 1", "meets 2 2 0 1 = 1",
            "meets 2 2 1 1 = 0", "meets 3 3 0 0 = 1", "meets 3 3 599 0 = 600", "meets 3 3 1198 0 = 1", "meets 3 3 1199 0 = 0",
            "meets 3 3 -599 1 = 1", "meets 3 3 599 1 = 1", "meets 3 3 600 1 = 0", "meets 3 3 0 1 = 600", "meets 3 2 5 0 = 1",
            "meets 3 2 4 0 = 0", "meets 2 3 5 1 = 1", "meets 2 3 6 1 = 0");
        noSieves("meets", " 4 0", " 4 2");
        noSieves("meets", " -4 1", " 4 -1");
    }

    /** "The first PLACE at which the numbers of two SIEVES are unlike (or one has none), what 0; how many PLACES have like ones (1) (1; 2; 5 of 0: the ROWS are alike)." */
    private static void apart() {
        four("54: what 0 and 1");
        script.asks("apart 0 1 0 = 2", "apart 0 1 1 = 1", "apart 0 1 -1 ! 1", "apart 0 1 2 ! 1", "apart 0 1 least ! 1",
            "apart 0 1 most ! 1", "apart 0 0 0 ! 5", "apart 0 0 1 = 11", "apart 2 2 0 ! 5", "apart 2 2 1 = 1", "apart 3 3 0 ! 5",
            "apart 3 3 1 = 600", "apart 0 2 0 = 1", "apart 0 2 1 = 0", "apart 3 2 0 = 1");
        noSieves("apart", " 0", " 2");
        noSieves("apart", " 1", " -1");
    }

    private static void apartByOne() {
        script.begin("54: the last PLACE, the one behind it",
            "sieve a from 4 by 1 many 9 flavius; sieve b from 4 by 1 many 9 flavius;");
        script.asks("apart 0 1 0 ! 5", "longer 1 10 = 10", "apart 0 1 0 = 10", "apart 1 0 0 = 10", "apart 0 1 1 = 9", "apart 1 0 1 = 9",
            "strike 1 12 = 9", "apart 0 1 0 = 9", "apart 0 1 1 = 8", "strike 1 4 = 1", "apart 0 1 0 = 1", "apart 1 0 0 = 1",
            "apart 0 1 1 = 0", "longer 0 600 = 600", "longer 1 600 = 600", "apart 0 1 0 ! 5", "apart 0 1 1 = 600");
        script.begin("54: like again behind unlike ones", "sieve a from 0 by 2 many 9 flavius; sieve b from 4 by 1 many 9 flavius;");
        script.asks("apart 0 1 0 = 1", "apart 0 1 1 = 1", "apart 1 0 1 = 1");
    }

    /** "how many bytes (2)". */
    private static void print() {
        four("55: SIEVES 0 to 3");
        script.prints(0, "1 3 7 9 13 15 21 25 31 33 37");
        script.prints(1, "1-3 5 7 11 13 17 19");
        script.prints(2, "5");
        script.prints(3, "0-599");
        script.asks("print 4 ! 2", "print -1 ! 2", "print least ! 2", "print most ! 2", "out 4 = 57", "out 5 ! 5", "many 1 = 3");
    }

    /** "a blank between, with - between the ends of a RUN of three or more instead". */
    private static void printRuns() {
        script.begin("55: RUNS of one, two, three, four",
            "sieve a from 0 by 1 many 14 flavius; sieve b from 9 by 99 many 4 flavius; sieve c from 98 by 1 many 5 flavius;");
        script.asks("strike 0 1 = 2", "strike 0 4 = 4", "strike 0 8 = 7");
        script.prints(0, "0 2 3 5-7 9-13");
        script.asks("strike 0 11 = 9");
        script.prints(0, "0 2 3 5-7 9 10 12 13");
        script.asks("strike 0 13 = 10", "strike 0 0 = 1");
        script.prints(0, "2 3 5-7 9 10 12");
        script.prints(1, "9-306");
        script.asks("strike 1 108 = 2");
        script.prints(1, "9 207 306");
        script.asks("strike 1 207 = 2");
        script.prints(1, "9 306");
        script.prints(2, "98-102");
        script.asks("strike 2 100 = 3");
        script.prints(2, "98 99 101 102");
        script.begin("55: two, three numbers", "sieve a from 9 by 1 many 3 flavius;");
        script.prints(0, "9-11");
        script.asks("longer 0 2 = 2");
        script.prints(0, "9 10");
        script.asks("strike 0 10 = 2");
        script.prints(0, "9");
    }

    /** "Byte i of OUT (1: below 0; 5: OUT has not so many, or there is none yet)." */
    private static void out() {
        script.bare("56: none yet");
        script.asks("out 0 ! 5", "out 1 ! 5", "out -1 ! 1", "out least ! 1", "out most ! 5", "make 1 8 1 3 = 0", "print 1 ! 2",
            "out 0 ! 5", "print 0 = 4", "out 0 = 56", "out 1 = 45", "out 2 = 49", "out 3 = 48", "out 4 ! 5", "out most ! 5",
            "out -1 ! 1", "out -2 ! 1", "out least ! 1");
        script.asks("round 0 = 1", "out 1 = 45", "out 3 = 48", "print 0 = 4", "out 1 = 32", "out 2 = 49", "round 0 ! 5",
            "strike 0 10 = 2", "out 3 = 48", "print 0 = 1", "out 0 = 56", "out 1 ! 5", "out 3 ! 5", "undo = 2", "out 0 = 56",
            "out 1 ! 5", "print 1 ! 2", "out 0 = 56", "drop 0 = 0", "print 0 ! 2", "out 0 = 56", "out 1 ! 5");
    }

    /** Rows of 600 numbers up to 60300. */
    private static void greatest() {
        script.begin("46 to 56: the greatest numbers",
            "sieve a from 999 by 99 many 600 fixed 3 rounds 1; sieve b from 999 by 99 many 600 lucky; list c 9999;");
        script.asks("both 0 1 0 = 600", "apart 0 1 0 ! 5", "lead 0 1 0 = 0", "meets 0 1 120600 0 = 1", "meets 0 1 120601 0 = 0",
            "meets 0 1 59301 1 = 1", "meets 0 1 -59301 1 = 1", "through 0 1 -1 = 0", "print 0 = 9", "out 3 = 45", "fits 0 0 2 = 0",
            "guess 0 ! 5", "round 0 = 200", "both 0 1 2 = 200", "both 0 1 3 = 1197", "apart 0 1 0 = 3", "apart 0 1 1 = 2",
            "lead 0 1 2 = -200", "lead 0 1 4 = -200", "lead 1 0 0 = 200", "lead 1 0 1 = 60300", "print 0 = 2337", "out 0 = 57",
            "out 2336 = 49", "out 2337 ! 5");
    }
}
