/** Promises 16 to 25: the first and the last PLACE, ROUND and number there is, and those just behind them. */
public final class PlacesBoundsTest {
    /** a: 1 3 .. 19; 5 11 17 go, then 19. b: 1 to 12; 4 6 8 10 12 go, then 9. c: 0 5 10 15; 5 15 go, then none, none. */
    private static final String THREE = "sieve a from 1 by 2 many 10 lucky; sieve b from 1 by 1 many 12 prime;"
        + "sieve c from 0 by 5 many 4 told 2 9 3; list d 3 7 9;";
    private static final String GREATEST = "sieve a from 999 by 99 many 600 fixed 2 rounds 1; sieve b from 0 by 1 many 600 lucky;";
    private static final Script script = new Script("PlacesBoundsTest");

    public static void main(String[] args) {
        number();
        rank();
        fate();
        fateAheadOfThat();
        back();
        ahead();
        backAndAheadOfHands();
        would();
        wouldWhenDone();
        till();
        tillAtBounds();
        origin();
        originAndHands();
        gone();
        upTo();
        greatest();
        script.end();
    }

    /** "(1: p below 1; 2; 5: the ROW has not so many)". */
    private static void number() {
        script.begin("16: p from 1 to how many the ROW has", THREE);
        script.asks("number 0 1 = 1", "number 0 10 = 19", "number 0 11 ! 5", "number 0 most ! 5", "number 0 0 ! 1", "number 0 -1 ! 1",
            "number 0 least ! 1", "number 2 1 = 0", "number 3 1 ! 2", "number -1 1 ! 2", "number 3 0 ! 1", "number -1 0 ! 1",
            "number 3 most ! 2");
        script.asks("round 0 = 3", "number 0 7 = 19", "number 0 8 ! 5", "strike 0 19 = 7", "number 0 6 = 15", "number 0 7 ! 5",
            "longer 0 2 = 2", "number 0 2 = 3", "number 0 3 ! 5");
    }

    /** "The PLACE of a number (2; 5: it is not in the ROW)." */
    private static void rank() {
        script.begin("17: numbers of the ROW, and next to them", THREE);
        script.asks("rank 0 1 = 1", "rank 0 0 ! 5", "rank 0 2 ! 5", "rank 0 19 = 10", "rank 0 18 ! 5", "rank 0 20 ! 5", "rank 0 21 ! 5",
            "rank 0 -1 ! 5", "rank 0 least ! 5", "rank 0 most ! 5", "rank 2 0 = 1", "rank 2 -5 ! 5", "rank 2 15 = 4", "rank 2 20 ! 5",
            "rank 3 1 ! 2", "rank -1 1 ! 2", "rank 3 -1 ! 2");
        script.asks("round 0 = 3", "rank 0 5 ! 5", "rank 0 7 = 3", "rank 0 17 ! 5", "rank 0 19 = 7", "strike 0 1 = 1", "rank 0 1 ! 5",
            "rank 0 19 = 6");
    }

    /** "what 0: in which ROUND (0: by hand), 1: its PLACE right ahead of that (1; 2; 5: it was not struck, or never there)". */
    private static void fate() {
        script.begin("18: struck, not struck, never there", THREE);
        script.asks("fate 0 5 0 ! 5", "round 0 = 3", "fate 0 5 0 = 1", "fate 0 5 1 = 3", "fate 0 17 0 = 1", "fate 0 17 1 = 9",
            "fate 0 3 0 ! 5", "fate 0 1 1 ! 5", "fate 0 19 0 ! 5", "fate 0 4 0 ! 5", "fate 0 -1 0 ! 5", "fate 0 0 1 ! 5",
            "fate 0 -3 0 ! 5", "fate 0 -3 1 ! 5", "fate 2 -10 0 ! 5", "fate 0 20 0 ! 5", "fate 0 21 0 ! 5", "fate 0 23 1 ! 5",
            "fate 0 least 0 ! 5", "fate 0 most 1 ! 5", "fate 0 5 -1 ! 1", "fate 0 5 2 ! 1", "fate 0 5 least ! 1", "fate 0 5 most ! 1",
            "fate 3 5 2 ! 1", "fate 3 5 0 ! 2", "fate -1 5 0 ! 2", "fate 3 4 1 ! 2");
        script.asks("round 0 = 1", "fate 0 19 0 = 2", "fate 0 19 1 = 7", "undo = 1", "fate 0 19 0 ! 5", "fate 0 5 0 = 1",
            "longer 0 9 = 6", "fate 0 19 0 ! 5", "fate 0 17 1 = 9");
    }

    private static void fateAheadOfThat() {
        script.begin("18: by hand, with the PLACE right ahead of that", THREE);
        script.asks("strike 0 3 = 2", "fate 0 3 0 = 0", "fate 0 3 1 = 2", "strike 0 1 = 1", "fate 0 1 0 = 0", "fate 0 1 1 = 1",
            "fate 0 3 1 = 2", "strike 0 19 = 8", "fate 0 19 1 = 8", "round 0 = 1", "fate 0 17 0 = 1", "fate 0 17 1 = 7",
            "fate 0 19 0 = 0", "strike 0 5 = 1", "fate 0 5 1 = 1", "fate 0 17 1 = 7", "strike 0 15 = 5", "fate 0 15 0 = 0",
            "fate 0 15 1 = 5");
        script.begin("18: the number 0", THREE);
        script.asks("fate 2 0 0 ! 5", "strike 2 0 = 1", "fate 2 0 0 = 0", "fate 2 0 1 = 1");
    }

    /** "ORIGIN of PLACE p behind ROUND r (1: r, p below 1; 2; 5: no such ROUND, not so many behind it)." */
    private static void back() {
        script.begin("19: r from 1 to the rounds done, p from 1 to how many are behind it", THREE);
        script.asks("back 0 1 1 ! 5", "round 0 = 3", "back 0 1 1 = 1", "back 0 1 2 = 2", "back 0 1 3 = 4", "back 0 1 4 = 5",
            "back 0 1 5 = 7", "back 0 1 7 = 10", "back 0 1 8 ! 5", "back 0 1 most ! 5", "back 0 2 1 ! 5", "back 0 most 1 ! 5",
            "back 0 0 1 ! 1", "back 0 1 0 ! 1", "back 0 -1 1 ! 1", "back 0 1 -1 ! 1", "back 0 least 1 ! 1", "back 0 1 least ! 1",
            "back 0 0 0 ! 1", "back 3 0 1 ! 1", "back 3 1 0 ! 1", "back 3 1 1 ! 2", "back -1 1 1 ! 2", "back 3 9 9 ! 2");
        script.asks("round 0 = 1", "back 0 2 6 = 6", "back 0 2 7 ! 5", "back 0 1 7 = 10", "back 0 3 1 ! 5", "undo = 1",
            "back 0 2 1 ! 5");
        script.begin("19: a round that struck nothing", THREE);
        script.asks("all 2 = 3", "back 2 1 1 = 1", "back 2 1 2 = 3", "back 2 1 3 ! 5", "back 2 2 2 = 2", "back 2 2 3 ! 5",
            "back 2 3 2 = 2", "back 2 4 1 ! 5");
    }

    /** "(1; 2; 5: no such ROUND, not so many ahead of it; it was struck)". */
    private static void ahead() {
        script.begin("20: r from 1 to the rounds done, p from 1 to how many are ahead of it", THREE);
        script.asks("ahead 0 1 1 ! 5", "round 0 = 3", "ahead 0 1 1 = 1", "ahead 0 1 2 = 2", "ahead 0 1 3 ! 5", "ahead 0 1 4 = 3",
            "ahead 0 1 6 ! 5", "ahead 0 1 7 = 5", "ahead 0 1 9 ! 5", "ahead 0 1 10 = 7", "ahead 0 1 11 ! 5", "ahead 0 1 most ! 5",
            "ahead 0 2 1 ! 5", "ahead 0 most 1 ! 5", "ahead 0 0 1 ! 1", "ahead 0 1 0 ! 1", "ahead 0 -1 1 ! 1", "ahead 0 1 -1 ! 1",
            "ahead 0 least 1 ! 1", "ahead 0 1 least ! 1", "ahead 3 0 1 ! 1", "ahead 3 1 0 ! 1", "ahead 3 1 1 ! 2", "ahead -1 1 1 ! 2",
            "ahead 3 9 9 ! 2");
        script.asks("round 0 = 1", "ahead 0 2 6 = 6", "ahead 0 2 7 ! 5", "ahead 0 2 8 ! 5", "ahead 0 3 1 ! 5", "ahead 0 1 10 = 7",
            "undo = 1", "ahead 0 2 1 ! 5");
        script.begin("20: a round that struck nothing", THREE);
        script.asks("all 2 = 3", "ahead 2 1 2 ! 5", "ahead 2 1 3 = 2", "ahead 2 1 4 ! 5", "ahead 2 2 2 = 2", "ahead 2 2 3 ! 5",
            "ahead 2 3 2 = 2", "ahead 2 4 1 ! 5");
    }

    /** "(Numbers struck by hand since are there yet: PLACES of a ROUND are as they were right ahead of it, right behind it.)" */
    private static void backAndAheadOfHands() {
        script.begin("2: numbers struck by hand since are there yet, those struck ahead of it not", THREE);
        script.asks("strike 0 1 = 1", "round 0 = 1", "told 0 1 2 = 11", "back 0 1 1 = 1", "back 0 1 4 = 4", "back 0 1 5 = 6",
            "back 0 1 8 = 9", "back 0 1 9 ! 5", "ahead 0 1 5 ! 5", "ahead 0 1 9 = 8", "ahead 0 1 10 ! 5", "strike 0 3 = 1",
            "strike 0 17 = 6", "back 0 1 1 = 1", "back 0 1 7 = 8", "back 0 1 8 = 9", "back 0 1 9 ! 5", "ahead 0 1 1 = 1",
            "ahead 0 1 8 = 7", "ahead 0 1 9 = 8", "ahead 0 1 10 ! 5");
        script.begin("2: between two ROUNDS", THREE);
        script.asks("round 1 = 5", "strike 1 1 = 1", "round 1 ! 5", "undo = 1", "strike 1 11 = 7", "round 1 = 1", "back 1 1 7 = 11",
            "back 1 1 8 ! 5", "back 1 2 5 = 5", "back 1 2 6 ! 5", "ahead 1 1 11 = 7", "ahead 1 1 12 ! 5", "ahead 1 2 6 ! 5",
            "ahead 1 2 7 ! 5", "ahead 1 2 5 = 5");
    }

    /** "The number that would be at PLACE p, if all ROUNDS were done (1: p below 1; 2; 5: not so many)." */
    private static void would() {
        script.begin("21: p from 1 to how many would be left", THREE);
        script.asks("would 0 1 = 1", "would 0 6 = 15", "would 0 7 ! 5", "would 0 10 ! 5", "would 0 most ! 5", "would 0 0 ! 1",
            "would 0 -1 ! 1", "would 0 least ! 1", "would 3 0 ! 1", "would 3 1 ! 2", "would -1 1 ! 2", "would 1 6 = 11",
            "would 1 7 ! 5", "would 2 1 = 0", "would 2 2 = 10", "would 2 3 ! 5");
        script.asks("many 1 = 0", "sieve 0 5 = 0", "sieve 0 4 = 10", "gone 0 -1 = 0", "round 0 = 3", "would 0 6 = 15", "would 0 7 ! 5",
            "sieve 0 5 = 1", "sieve 0 4 = 7");
        script.asks("strike 0 1 = 1", "would 0 6 = 19", "would 0 7 ! 5", "undo = 1", "round 0 = 1", "would 0 6 = 15", "would 0 7 ! 5");
    }

    private static void wouldWhenDone() {
        script.begin("21: of a SIEVE that is DONE from the first on",
            "sieve a from 0 by 1 many 9 lucky; sieve b from 5 by 1 many 5 lucky;");
        script.asks("would 0 1 = 0", "would 0 9 = 8", "would 0 10 ! 5", "would 1 5 = 9", "would 1 6 ! 5");
        script.begin("21: one SIEVE's rounds are not another one's",
            "sieve a from 0 by 1 many 9 told 2 2 2; sieve b from 0 by 1 many 9 fixed 2 rounds 2;");
        script.asks("would 0 1 = 0", "would 0 2 = 8", "would 0 3 ! 5", "would 1 2 = 4", "would 1 3 = 8", "would 1 4 ! 5");
    }

    /** "How many ROUNDS more it takes till at most n (1 to 600) are left (1; 2; 5: there are more when it is DONE)." */
    private static void till() {
        script.begin("22: n from 1 to 600", THREE);
        script.asks("till 0 600 = 0", "till 0 601 ! 1", "till 0 most ! 1", "till 0 0 ! 1", "till 0 -1 ! 1", "till 0 least ! 1",
            "till 3 0 ! 1", "till 3 601 ! 1", "till 3 1 ! 2", "till -1 600 ! 2", "till 0 11 = 0", "till 0 10 = 0", "till 0 9 = 1",
            "till 0 7 = 1", "till 0 6 = 2", "till 0 5 ! 5", "till 0 1 ! 5", "sieve 0 5 = 0", "many 1 = 0");
        script.asks("round 0 = 3", "till 0 10 = 0", "till 0 7 = 0", "till 0 6 = 1", "till 0 5 ! 5", "round 0 = 1", "till 0 6 = 0",
            "till 0 5 ! 5", "strike 0 1 = 1", "till 0 5 = 0", "till 0 4 ! 5");
    }

    private static void tillAtBounds() {
        script.begin("22: one left",
            "sieve a from 1 by 1 many 2 flavius; sieve b from 1 by 1 many 600 fixed 2 rounds 60; sieve c from 1 by 1 many 2 fixed 99 rounds 60;");
        script.asks("till 0 1 = 1", "till 0 2 = 0", "till 1 1 = 10", "till 1 2 = 9", "till 1 300 = 1", "till 1 299 = 2",
            "till 1 600 = 0", "till 1 599 = 1", "till 2 2 = 0", "till 2 1 ! 5");
        script.begin("22: rounds that strike nothing count",
            "sieve a from 1 by 1 many 2 told 3 9 2; sieve b from 1 by 1 many 2 told 3 9;");
        script.asks("till 0 1 = 3", "till 1 1 ! 5", "round 0 = 0", "till 0 1 = 2");
    }

    /** "(1: p below 1; 2; 5: no ROUND, not so many behind the latest; ..)". */
    private static void origin() {
        script.begin("23: p from 1 to how many are behind the latest", THREE);
        script.asks("origin 0 1 ! 5", "origin 0 0 ! 1", "origin 0 -1 ! 1", "origin 0 least ! 1", "origin 3 0 ! 1", "origin 3 1 ! 2",
            "origin -1 1 ! 2", "round 0 = 3", "origin 0 1 = 1", "origin 0 3 = 4", "origin 0 7 = 10", "origin 0 8 ! 5",
            "origin 0 most ! 5", "round 0 = 1", "origin 0 6 = 8", "origin 0 7 ! 5", "undo = 1", "origin 0 7 = 10", "undo = 0",
            "origin 0 1 ! 5");
        script.begin("23: through two ROUNDS, three ROUNDS", THREE);
        script.asks("all 1 = 2", "origin 1 1 = 1", "origin 1 4 = 5", "origin 1 5 = 7", "origin 1 6 = 11", "origin 1 7 ! 5", "all 2 = 3",
            "origin 2 1 = 1", "origin 2 2 = 3", "origin 2 3 ! 5", "longer 1 9 = 5", "origin 1 5 = 7", "origin 1 6 ! 5");
    }

    /** "a number was struck by hand between two ROUNDS": not ahead of the first, not behind the latest. */
    private static void originAndHands() {
        script.begin("23: by hand ahead of the first ROUND", THREE);
        script.asks("strike 1 12 = 12", "round 1 = 4", "origin 1 7 = 11", "origin 1 8 ! 5", "round 1 = 1", "origin 1 6 = 11",
            "origin 1 7 ! 5");
        script.asks("strike 2 0 = 1", "round 2 = 1", "origin 2 1 = 1", "origin 2 2 = 3", "origin 2 3 ! 5", "round 2 = 0",
            "origin 2 2 = 3");
        script.begin("23: by hand behind the latest ROUND: it is there yet", THREE);
        script.asks("round 1 = 5", "strike 1 11 = 7", "origin 1 7 = 11", "origin 1 8 ! 5", "undo = 1", "round 1 = 1", "strike 1 2 = 2",
            "strike 1 11 = 5", "origin 1 6 = 11", "origin 1 7 ! 5");
        script.begin("23: by hand between the first and the second ROUND", THREE);
        script.asks("round 1 = 5", "strike 1 11 = 7", "origin 1 1 = 1", "round 1 = 1", "origin 1 1 ! 5", "origin 1 0 ! 1", "undo = 2",
            "origin 1 1 = 1", "undo = 1", "round 1 = 1", "origin 1 1 = 1");
        script.begin("23: by hand between the second and the third ROUND", THREE);
        script.asks("round 2 = 2", "round 2 = 0", "strike 2 10 = 2", "origin 2 2 = 3", "round 2 = 0", "origin 2 1 ! 5",
            "longer 2 5 = 2", "origin 2 1 = 1");
    }

    /** "The k-th (from 0 on, by numbers) that was struck, or (k NONE) how many were (1: k below NONE; 2; 5: not so many)." */
    private static void gone() {
        script.begin("24: none, some", THREE);
        script.asks("gone 0 -1 = 0", "gone 0 0 ! 5", "gone 0 -2 ! 1", "gone 0 least ! 1", "gone 3 -2 ! 1", "gone 3 -1 ! 2",
            "gone -1 0 ! 2", "gone 3 9 ! 2", "round 0 = 3", "gone 0 -1 = 3", "gone 0 0 = 5", "gone 0 2 = 17", "gone 0 3 ! 5",
            "gone 0 most ! 5", "strike 0 19 = 7", "gone 0 -1 = 4", "gone 0 3 = 19", "gone 0 4 ! 5", "strike 0 1 = 1", "gone 0 0 = 1",
            "gone 0 1 = 5", "gone 0 4 = 19", "gone 0 5 ! 5", "undo = 2", "undo = 1", "gone 0 3 ! 5", "undo = 0", "gone 0 -1 = 0");
        script.begin("24: all but one", THREE);
        script.asks("strike 2 0 = 1", "strike 2 5 = 1", "strike 2 10 = 1", "gone 2 -1 = 3", "gone 2 0 = 0", "gone 2 2 = 10",
            "gone 2 3 ! 5");
    }

    /** "How many numbers of the ROW are n or less (2)." */
    private static void upTo() {
        script.begin("25: n below, at, between, above the numbers", THREE);
        script.asks("upTo 0 least = 0", "upTo 0 -1 = 0", "upTo 0 0 = 0", "upTo 0 1 = 1", "upTo 0 2 = 1", "upTo 0 3 = 2",
            "upTo 0 18 = 9", "upTo 0 19 = 10", "upTo 0 20 = 10", "upTo 0 most = 10", "upTo 2 -1 = 0", "upTo 2 0 = 1", "upTo 3 1 ! 2",
            "upTo -1 1 ! 2", "upTo 3 -1 ! 2", "upTo most 0 ! 2", "round 0 = 3", "upTo 0 5 = 2", "upTo 0 6 = 2", "upTo 0 7 = 3",
            "upTo 0 most = 7");
    }

    /** The greatest numbers and the longest rows that can be told. */
    private static void greatest() {
        script.begin("16 to 25: 600 numbers up to 60300", GREATEST);
        script.asks("rank 0 60300 = 600", "rank 0 60399 ! 5", "rank 0 900 ! 5", "rank 0 999 = 1", "upTo 0 60299 = 599",
            "upTo 0 60300 = 600", "would 0 300 = 60201", "would 0 301 ! 5", "till 0 300 = 1", "till 0 299 ! 5", "round 0 = 300",
            "number 0 300 = 60201", "number 0 301 ! 5", "back 0 1 300 = 599", "back 0 1 301 ! 5", "ahead 0 1 599 = 300",
            "ahead 0 1 600 ! 5", "ahead 0 1 601 ! 5", "origin 0 300 = 599", "origin 0 301 ! 5", "fate 0 60300 1 = 600",
            "fate 0 1098 1 = 2", "gone 0 -1 = 300", "gone 0 299 = 60300", "gone 0 300 ! 5", "rank 1 599 = 600", "rank 1 600 ! 5");
    }
}
