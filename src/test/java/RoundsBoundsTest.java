/** Promises 8 to 15 and the terms' paragraph 2: when a SIEVE is DONE, what an act may be asked, what undo() brings back. */
public final class RoundsBoundsTest {
    /** a: 1 3 .. 19, its rounds strike 5 11 17, then 19; b: 1 to 12, its rounds strike 4 6 8 10 12, then 9; c: 0 5 10 15. */
    private static final String THREE = "sieve a from 1 by 2 many 10 lucky; sieve b from 1 by 1 many 12 prime;"
        + "sieve c from 0 by 5 many 4 told 2 9 3; list d 3 7 9;";
    private static final Script script = new Script("RoundsBoundsTest");

    public static void main(String[] args) {
        lucky();
        flavius();
        ludic();
        prime();
        fixed();
        toldLaw();
        byHand();
        round();
        all();
        told();
        toldBehindHands();
        strike();
        strikeLast();
        longer();
        longerAnew();
        longerRounds();
        make();
        makeOneTooMany();
        drop();
        dropAll();
        undo();
        undoEachAct();
        undoEight();
        undoEightUnlike();
        undoWhatRoundsTold();
        noActs();
        loadForgets();
        script.end();
    }

    private static void open(String law, int strikes, String row) {
        script.begin("2: open " + law, "sieve a " + law + ";");
        script.asks("sieve 0 6 = 0", "round 0 = " + strikes);
        script.prints(0, row);
    }

    private static void done(String law) {
        script.begin("2: DONE " + law, "sieve a " + law + ";");
        script.asks("sieve 0 6 = 1", "round 0 ! 5", "all 0 ! 5", "sieve 0 5 = 0", "many 1 = 0", "would 0 1 = " + law.split(" ")[1]);
    }

    /** "GAP is the number at PLACE r and 1; it strikes at PLACES GAP, 2 GAP and so on." "GAP is below 2", "strike nothing". */
    private static void lucky() {
        done("from 0 by 1 many 600 lucky");
        open("from 1 by 1 many 2 lucky", 1, "1");
        open("from 0 by 2 many 2 lucky", 1, "0");
        open("from 0 by 2 many 6 lucky", 3, "0 4 8");
        done("from 5 by 1 many 5 lucky");
        open("from 5 by 1 many 6 lucky", 1, "5-9");
        open("from 5 by 1 many 11 lucky", 1, "5-9 11-15");
        open("from 5 by 1 many 12 lucky", 2, "5-9 11-15");
        done("from 999 by 99 many 600 lucky");
        script.begin("2: no number at the PLACE that tells the GAP", "sieve a from 1 by 1 many 2 lucky;");
        script.asks("round 0 = 1", "sieve 0 6 = 1", "round 0 ! 5", "all 0 ! 5", "sieve 0 4 = 1");
        script.begin("2: no number at PLACE 2", "sieve a from 1 by 1 many 2 lucky;");
        script.asks("strike 0 2 = 2", "sieve 0 6 = 1", "round 0 ! 5", "sieve 0 5 = 0");
    }

    /** "GAP r and 1; likewise." */
    private static void flavius() {
        open("from 0 by 1 many 2 flavius", 1, "0");
        open("from 0 by 1 many 4 flavius", 2, "0 2");
        open("from 0 by 1 many 5 flavius", 2, "0 2 4");
        script.begin("2: it strikes at PLACE 3 of 3", "sieve a from 1 by 1 many 5 flavius;");
        script.asks("round 0 = 2", "sieve 0 6 = 0", "round 0 = 1", "sieve 0 6 = 1", "round 0 ! 5");
        script.prints(0, "1 3");
        script.begin("2: it would strike at PLACE 3 of 2", "sieve a from 1 by 1 many 4 flavius;");
        script.asks("round 0 = 2", "sieve 0 6 = 1", "round 0 ! 5", "all 0 ! 5");
        script.begin("2: one number alone", "sieve a from 1 by 1 many 2 flavius;");
        script.asks("strike 0 1 = 1", "sieve 0 6 = 1", "round 0 ! 5", "all 0 ! 5");
    }

    /** "HEAD is PLACE r and 1, GAP the number there; it strikes at HEAD and GAP, HEAD and 2 GAP and so on." */
    private static void ludic() {
        done("from 0 by 1 many 600 ludic");
        done("from 1 by 1 many 3 ludic");
        open("from 1 by 1 many 4 ludic", 1, "1-3");
        open("from 1 by 1 many 5 ludic", 1, "1-3 5");
        open("from 1 by 1 many 6 ludic", 2, "1-3 5");
        done("from 0 by 2 many 3 ludic");
        open("from 0 by 2 many 4 ludic", 1, "0-4");
        done("from 4 by 1 many 6 ludic");
        open("from 4 by 1 many 7 ludic", 1, "4-9");
        script.begin("2: the next HEAD is PLACE 3", "sieve a from 1 by 1 many 13 ludic;");
        script.asks("round 0 = 5", "told 0 1 0 = 2", "round 0 = 1", "told 0 2 0 = 3", "told 0 2 2 = 9", "round 0 ! 5");
        script.prints(0, "1-3 5 7 11 13");
        script.begin("2: no number at the PLACE that tells the GAP", "sieve a from 1 by 1 many 2 ludic;");
        script.asks("strike 0 2 = 2", "round 0 ! 5", "all 0 ! 5", "sieve 0 6 = 1");
    }

    /** "it strikes the numbers behind HEAD that GAP has without rest": not HEAD, not those ahead of it. */
    private static void prime() {
        done("from 0 by 1 many 600 prime");
        open("from 0 by 2 many 3 prime", 1, "0 2");
        open("from 0 by 2 many 5 prime", 3, "0 2");
        done("from 0 by 2 many 2 prime");
        done("from 5 by 1 many 7 prime");
        open("from 5 by 1 many 8 prime", 1, "5-11");
        done("from 1 by 1 many 3 prime");
        open("from 1 by 1 many 4 prime", 1, "1-3");
        open("from 3 by 3 many 4 prime", 1, "3-9");
        script.begin("2: DONE, as 5 would strike nothing, though 6 behind it would strike 12", "sieve a from 4 by 1 many 9 prime;");
        script.asks("sieve 0 6 = 0", "strike 0 10 = 7", "sieve 0 6 = 1", "round 0 ! 5", "all 0 ! 5", "would 0 8 = 12", "till 0 8 = 0",
            "till 0 7 ! 5");
        script.begin("2: no number at the PLACE that tells the GAP", "sieve a from 2 by 2 many 2 prime;");
        script.asks("strike 0 4 = 2", "round 0 ! 5", "all 0 ! 5", "sieve 0 6 = 1");
    }

    /** "GAP always as told"; "its rounds .. are over": a round that strikes nothing is done. */
    private static void fixed() {
        open("from 0 by 1 many 2 fixed 2 rounds 1", 1, "0");
        open("from 0 by 1 many 2 fixed 3 rounds 1", 0, "0 1");
        script.begin("2: one round", "sieve a from 0 by 1 many 9 fixed 2 rounds 1;");
        script.asks("sieve 0 6 = 0", "round 0 = 4", "sieve 0 6 = 1", "round 0 ! 5", "all 0 ! 5", "sieve 0 4 = 5");
        script.begin("2: two rounds", "sieve a from 0 by 1 many 9 fixed 2 rounds 2;");
        script.asks("round 0 = 4", "sieve 0 6 = 0", "round 0 = 2", "told 0 2 0 = 2", "round 0 ! 5");
        script.begin("2: sixty rounds, most of which strike nothing", "sieve a from 0 by 1 many 2 fixed 2 rounds 60;");
        script.asks("all 0 = 60", "sieve 0 4 = 1", "told 0 1 1 = 1", "told 0 60 1 = 0", "told 0 60 0 = 2", "told 0 61 0 ! 5",
            "round 0 ! 5");
        script.begin("2: fifty-nine and one", "sieve a from 0 by 1 many 600 fixed 99 rounds 60;");
        for (int r = 1; r < 60; r++) script.asks("round 0 = " + due99(r));
        script.asks("sieve 0 6 = 0", "all 0 = 1", "sieve 0 6 = 1", "all 0 ! 5");
    }

    /** How many every 99th is, of 600 less those that rounds ahead struck. */
    private static int due99(int r) {
        int left = 600;
        for (int i = 1; i < r; i++) left -= left / 99;
        return left / 99;
    }

    /** "GAP the r-th told"; "told GAPS are over". */
    private static void toldLaw() {
        open("from 0 by 1 many 2 told 2", 1, "0");
        open("from 0 by 1 many 2 told 999", 0, "0 1");
        script.begin("2: each GAP once", "sieve a from 0 by 1 many 12 told 4 99 2;");
        script.asks("round 0 = 3", "round 0 = 0", "sieve 0 6 = 0", "round 0 = 4", "sieve 0 6 = 1", "round 0 ! 5", "all 0 ! 5");
        script.prints(0, "0 2 5 8 10");
        script.begin("2: GAP 600 of 600", "sieve a from 0 by 1 many 600 told 600 600;");
        script.asks("round 0 = 1", "round 0 = 0", "number 0 599 = 598", "number 0 600 ! 5");
    }

    /** "By hand a number can be struck between ROUNDS (it closes up; it is of no ROUND)." */
    private static void byHand() {
        script.begin("2: by hand ahead of, between and behind ROUNDS", THREE);
        script.asks("strike 0 3 = 2", "number 0 2 = 5", "sieve 0 5 = 0", "told 0 1 0 ! 5", "fate 0 3 0 = 0", "round 0 = 1",
            "told 0 1 0 = 5", "told 0 1 2 = 11", "strike 0 1 = 1", "round 0 ! 5", "sieve 0 5 = 1", "sieve 0 7 = 2", "told 0 1 1 = 1",
            "told 0 1 3 = 8", "told 0 2 0 ! 5");
        script.begin("2: the second GAP is the one at PLACE 3 as it is then", THREE);
        script.asks("round 0 = 3", "strike 0 9 = 4", "strike 0 7 = 3", "round 0 ! 5", "strike 0 1 = 1", "round 0 ! 5", "undo = 3",
            "undo = 2", "round 0 ! 5", "undo = 1", "round 0 = 1");
    }

    /** "how many numbers it struck (2; 5: the SIEVE is DONE)". */
    private static void round() {
        script.begin("8: till it is DONE", THREE);
        script.asks("round 0 = 3", "round 0 = 1", "round 0 ! 5", "round 1 = 5", "round 1 = 1", "round 1 ! 5", "round 2 = 2",
            "round 2 = 0", "round 2 = 0", "round 2 ! 5", "round 3 ! 2", "round -1 ! 2", "round least ! 2", "round most ! 2");
        script.asks("many 1 = 7", "sieve 0 5 = 2", "sieve 1 5 = 2", "sieve 2 5 = 3");
        script.begin("8: the greatest row", "sieve a from 1 by 1 many 600 flavius;");
        script.asks("round 0 = 300", "round 0 = 100", "number 0 200 = 597", "number 0 201 ! 5");
    }

    /** "All ROUNDS are done till it is DONE: how many (2; 5: it is)." */
    private static void all() {
        script.begin("9: till it is DONE", THREE);
        script.asks("all 0 = 2", "all 0 ! 5", "round 1 = 5", "all 1 = 1", "all 1 ! 5", "round 2 = 2", "round 2 = 0", "all 2 = 1",
            "all 2 ! 5", "all 3 ! 2", "all -1 ! 2", "all least ! 2", "all most ! 2", "many 1 = 6", "undo = 5", "sieve 2 5 = 2");
        script.begin("9: the most rounds a row of 600 has",
            "sieve a from 1 by 1 many 600 prime; sieve b from 1 by 1 many 600 flavius;");
        script.asks("all 0 = 9", "sieve 0 4 = 110", "told 0 9 0 = 23", "told 0 9 2 = 529", "all 1 = 27", "told 1 27 0 = 28",
            "told 1 28 0 ! 5", "round 1 ! 5");
    }

    /** "what 0: its GAP, 1: how many it struck, 2: the first number it struck (5: none), 3: how many were left behind it". */
    private static void told() {
        script.begin("10: r from 1 to the rounds done", THREE);
        script.asks("told 0 1 0 ! 5", "round 0 = 3", "told 0 1 0 = 3", "told 0 1 1 = 3", "told 0 1 2 = 5", "told 0 1 3 = 7",
            "told 0 2 0 ! 5", "told 0 2 2 ! 5", "told 0 0 0 ! 1", "told 0 -1 0 ! 1", "told 0 least 3 ! 1", "told 0 most 0 ! 5",
            "told 0 1 -1 ! 1", "told 0 1 4 ! 1", "told 0 1 least ! 1", "told 0 1 most ! 1", "told 3 1 0 ! 2", "told -1 1 0 ! 2",
            "told 3 0 0 ! 1", "told 3 1 4 ! 1", "told 3 9 0 ! 2", "told 0 9 4 ! 1");
        script.asks("round 0 = 1", "told 0 2 0 = 7", "told 0 2 1 = 1", "told 0 2 2 = 19", "told 0 2 3 = 6", "told 0 3 0 ! 5",
            "told 0 1 3 = 7");
        script.begin("10: a round that struck nothing", THREE);
        script.asks("all 2 = 3", "told 2 1 2 = 5", "told 2 1 3 = 2", "told 2 2 0 = 9", "told 2 2 1 = 0", "told 2 2 2 ! 5",
            "told 2 2 3 = 2", "told 2 3 2 ! 5", "told 2 3 0 = 3", "told 2 4 0 ! 5", "undo = 0", "told 2 1 0 ! 5");
        script.begin("10: 0 is no round's first one, but 2 may be", "sieve a from 0 by 2 many 2 lucky;");
        script.asks("round 0 = 1", "told 0 1 2 = 2", "told 0 1 3 = 1");
    }

    private static void toldBehindHands() {
        script.begin("10: what hands struck is of no ROUND, and is left behind those ahead of it", THREE);
        script.asks("strike 1 12 = 12", "round 1 = 4", "told 1 1 1 = 4", "told 1 1 2 = 4", "told 1 1 3 = 7", "strike 1 1 = 1",
            "strike 1 9 = 5", "told 1 1 1 = 4", "told 1 1 2 = 4", "told 1 1 3 = 7", "sieve 1 4 = 5", "round 1 ! 5", "undo = 3",
            "undo = 2", "round 1 = 1", "told 1 2 3 = 6", "told 1 1 3 = 7");
    }

    /** "its PLACE (2; 5: it is not in the ROW, or it is the last one there is)". */
    private static void strike() {
        script.begin("11: numbers of the ROW", THREE);
        script.asks("strike 0 0 ! 5", "strike 0 2 ! 5", "strike 0 -1 ! 5", "strike 0 21 ! 5", "strike 0 18 ! 5", "strike 0 least ! 5",
            "strike 0 most ! 5", "strike 0 1 = 1", "strike 0 1 ! 5", "strike 0 19 = 9", "strike 0 19 ! 5", "strike 0 3 = 1",
            "sieve 0 7 = 3", "many 1 = 3", "strike 3 5 ! 2", "strike -1 5 ! 2", "strike 3 -5 ! 2", "strike most 0 ! 2", "round 0 = 1",
            "strike 0 17 ! 5", "strike 0 5 = 1");
        script.begin("11: 0 is a number of the ROW", THREE);
        script.asks("strike 2 0 = 1", "strike 2 0 ! 5", "strike 2 -5 ! 5", "strike 2 20 ! 5");
        script.begin("11: the greatest number there can be", "sieve a from 999 by 99 many 600 lucky;");
        script.asks("strike 0 60399 ! 5", "strike 0 900 ! 5", "strike 0 60300 = 600", "strike 0 999 = 1", "sieve 0 4 = 598");
    }

    private static void strikeLast() {
        script.begin("11: the last one there is", THREE);
        script.asks("strike 2 0 = 1", "strike 2 15 = 3", "strike 2 5 = 1", "strike 2 10 ! 5", "strike 2 5 ! 5", "sieve 2 4 = 1",
            "sieve 2 7 = 3", "number 2 1 = 10");
        script.begin("11: of two", "sieve a from 0 by 1 many 2 lucky;");
        script.asks("strike 0 1 = 2", "strike 0 0 ! 5", "undo = 0", "strike 0 0 = 1", "strike 0 1 ! 5");
    }

    /** "MANY at first is another one (2 to 600) .. (1; 2; 4)." */
    private static void longer() {
        script.begin("12: MANY from 2 to 600", THREE);
        script.asks("longer 0 1 ! 1", "longer 0 0 ! 1", "longer 0 -2 ! 1", "longer 0 least ! 1", "longer 0 601 ! 1",
            "longer 0 most ! 1", "longer 0 10 ! 4", "longer 3 1 ! 1", "longer -1 601 ! 1", "longer 3 10 ! 2", "longer -1 10 ! 2",
            "longer 0 2 = 2", "longer 0 2 ! 4", "sieve 0 3 = 2", "number 0 2 = 3", "longer 0 600 = 600", "longer 0 600 ! 4",
            "sieve 0 3 = 600", "number 0 600 = 1199", "number 0 601 ! 5", "longer 0 599 = 599", "many 1 = 3");
    }

    /** "Nothing is struck by hand then." "4 it is so already": though something was. */
    private static void longerAnew() {
        script.begin("12: the SIEVE is anew", THREE);
        script.asks("strike 0 7 = 4", "longer 0 10 ! 4", "sieve 0 7 = 1", "longer 0 11 = 11", "sieve 0 7 = 0", "rank 0 7 = 4",
            "fate 0 7 0 ! 5", "gone 0 -1 = 0", "undo = 1", "sieve 0 7 = 1", "sieve 0 3 = 10", "rank 0 7 ! 5", "fate 0 7 0 = 0",
            "undo = 0", "rank 0 7 = 4");
        script.begin("12: the other ones stand", THREE);
        script.asks("round 1 = 5", "longer 0 20 = 20", "sieve 1 5 = 1", "sieve 1 3 = 12", "sieve 2 3 = 4");
    }

    /** "of its ROUNDS as many are done as were, or as can be: how many numbers the ROW has". */
    private static void longerRounds() {
        script.begin("12: no round done", THREE);
        script.asks("longer 0 20 = 20", "sieve 0 5 = 0");
        script.begin("12: as many as were", THREE);
        script.asks("all 0 = 2", "longer 0 20 = 12", "sieve 0 5 = 2", "sieve 0 6 = 0", "told 0 2 1 = 2", "told 0 3 0 ! 5",
            "round 0 = 1", "longer 0 9 = 6", "sieve 0 5 = 1", "sieve 0 6 = 1");
        script.begin("12: or as can be", THREE);
        script.asks("all 0 = 2", "longer 0 2 = 2", "sieve 0 5 = 0", "told 0 1 0 ! 5", "longer 0 10 = 10", "sieve 0 5 = 0", "undo = 2",
            "undo = 1", "sieve 0 5 = 2", "sieve 0 4 = 6");
        script.begin("12: the least row that has the round", THREE);
        script.asks("all 0 = 2", "longer 0 3 = 2", "sieve 0 5 = 1", "longer 0 600 = 400", "sieve 0 5 = 1");
        script.begin("12: told GAPS, some of which strike nothing", THREE);
        script.asks("all 2 = 3", "longer 2 2 = 1", "sieve 2 5 = 3", "longer 2 600 = 178", "told 2 1 3 = 300", "told 2 2 3 = 267",
            "told 2 3 3 = 178");
        script.begin("12: hands that spared a number no longer do", THREE);
        script.asks("strike 0 3 = 2", "round 0 = 1", "longer 0 11 = 8", "told 0 1 0 = 3");
    }

    /** "of KIND 0 to 3, with FROM, BY, MANY as a text may tell: its number (1; 3)". */
    private static void make() {
        script.bare("13: one bound at a time");
        script.asks("make -1 1 1 9 ! 1", "make 4 1 1 9 ! 1", "make 5 1 1 9 ! 1", "make least 1 1 9 ! 1", "make most 1 1 9 ! 1",
            "make 0 -1 1 9 ! 1", "make 0 1000 1 9 ! 1", "make 0 least 1 9 ! 1", "make 0 most 1 9 ! 1", "make 0 1 0 9 ! 1",
            "make 0 1 100 9 ! 1", "make 0 1 -1 9 ! 1", "make 0 1 least 9 ! 1", "make 0 1 most 9 ! 1", "make 0 1 1 1 ! 1",
            "make 0 1 1 601 ! 1", "make 0 1 1 0 ! 1", "make 0 1 1 least ! 1", "make 0 1 1 most ! 1", "many 0 = 0", "many 1 = 0");
        script.asks("make 0 0 1 2 = 0", "sieve 0 0 = 0", "sieve 0 1 = 0", "sieve 0 2 = 1", "sieve 0 3 = 2", "sieve 0 4 = 2",
            "number 0 2 = 1", "make 3 999 99 600 = 1", "sieve 1 0 = 3", "number 1 600 = 60300", "make 1 1 1 9 = 2", "sieve 2 0 = 1",
            "round 2 = 4", "many 1 = 4", "undo = 3", "undo = 2", "many 0 = 2", "make 2 1 1 9 = 2", "sieve 2 0 = 2", "sieve 2 5 = 0",
            "sieve 2 4 = 9", "round 2 = 3");
        script.begin("13: it comes behind all", THREE);
        script.asks("make 1 7 1 2 = 3", "sieve 3 1 = 7", "sieve 0 1 = 1", "sieve 2 1 = 0", "round 3 = 1", "round 3 ! 5");
    }

    /** "3 one too many", behind 1 and ahead of all else. */
    private static void makeOneTooMany() {
        script.begin("13: a fifth", THREE);
        script.asks("make 0 1 1 9 = 3", "make 0 1 1 9 ! 3", "make 3 999 99 600 ! 3", "make 4 1 1 9 ! 1", "make 0 1000 1 9 ! 1",
            "make 0 1 1 601 ! 1", "many 0 = 4", "many 1 = 1", "drop 1 = 3", "make 2 8 1 9 = 3", "sieve 3 1 = 8", "sieve 2 2 = 1",
            "sieve 1 2 = 5", "make 0 1 1 9 ! 3", "undo = 2", "undo = 1", "make 0 1 1 9 ! 3", "undo = 0", "make 0 1 1 9 = 3");
    }

    /** "A SIEVE goes; those behind it come up by one number: how many are left (2)." */
    private static void drop() {
        script.begin("14: the first", THREE);
        script.asks("drop 3 ! 2", "drop -1 ! 2", "drop least ! 2", "drop most ! 2", "round 1 = 5", "drop 0 = 2", "sieve 0 0 = 3",
            "sieve 0 5 = 1", "sieve 1 0 = 5", "drop 2 ! 2", "sieve 2 0 ! 2");
        script.begin("14: one in the middle", THREE);
        script.asks("drop 1 = 2", "sieve 0 0 = 0", "sieve 1 0 = 5", "round 1 = 2", "undo = 1", "undo = 0", "sieve 1 0 = 3",
            "sieve 2 0 = 5", "sieve 2 5 = 0");
        script.begin("14: the last", THREE);
        script.asks("make 1 1 1 9 = 3", "drop 3 = 3", "sieve 3 0 ! 2", "sieve 2 0 = 5", "undo = 1", "sieve 3 0 = 1");
    }

    private static void dropAll() {
        script.begin("14: till none is left", THREE);
        script.asks("drop 0 = 2", "drop 0 = 1", "drop 0 = 0", "drop 0 ! 2", "many 0 = 0", "many 2 = 1", "guess 0 ! 5", "round 0 ! 2",
            "make 0 4 1 9 = 0", "undo = 3", "undo = 2", "sieve 0 0 = 5", "undo = 1", "sieve 0 0 = 3", "sieve 1 0 = 5", "undo = 0",
            "sieve 0 0 = 0", "sieve 1 0 = 3", "sieve 2 0 = 5", "undo ! 5");
    }

    /** "UNDO: how many more can be (5)." */
    private static void undo() {
        script.begin("15: none, one, two", THREE);
        script.asks("undo ! 5", "round 0 = 3", "undo = 0", "undo ! 5", "sieve 0 5 = 0", "sieve 0 4 = 10", "told 0 1 0 ! 5",
            "round 0 = 3", "round 0 = 1", "undo = 1", "sieve 0 5 = 1", "sieve 0 4 = 7", "told 0 2 0 ! 5", "fate 0 19 0 ! 5", "undo = 0",
            "undo ! 5", "many 1 = 0");
        script.begin("15: an act behind an UNDO", THREE);
        script.asks("round 0 = 3", "strike 0 1 = 1", "undo = 1", "strike 0 3 = 2", "many 1 = 2", "undo = 1", "rank 0 3 = 2", "undo = 0",
            "undo ! 5", "rank 0 5 = 3");
    }

    /** "ACTS: round(), all(), strike(), longer(), make(), drop()." */
    private static void undoEachAct() {
        String[][] acts = {{"round 0 = 3", "sieve 0 4 = 7", "sieve 0 4 = 10"}, {"all 0 = 2", "sieve 0 5 = 2", "sieve 0 5 = 0"},
            {"strike 0 1 = 1", "number 0 1 = 3", "number 0 1 = 1"}, {"longer 0 20 = 20", "sieve 0 3 = 20", "sieve 0 3 = 10"},
            {"make 1 1 1 2 = 3", "many 0 = 4", "many 0 = 3"}, {"drop 0 = 2", "sieve 0 0 = 3", "sieve 0 0 = 0"}};
        for (String[] act : acts) {
            script.begin("15: " + act[0], THREE);
            script.asks(act[0], act[1], "many 1 = 1", "undo = 0", act[2], "many 1 = 0", "undo ! 5");
        }
        script.begin("15: a SIEVE dropped comes back as it was", THREE);
        script.asks("round 0 = 3", "strike 0 1 = 1", "drop 0 = 2", "undo = 2", "sieve 0 5 = 1", "sieve 0 7 = 1", "number 0 1 = 3",
            "fate 0 1 0 = 0", "told 0 1 0 = 3", "drop 2 = 2", "undo = 2", "all 2 = 3", "told 2 2 0 = 9");
    }

    /** "8 are kept". */
    private static void undoEight() {
        for (int acts = 7; acts <= 10; acts++) {
            script.begin("15: undo of " + acts + " acts", "sieve a from 0 by 1 many 20 lucky; sieve b from 0 by 1 many 9 lucky;");
            for (int n = 0; n < acts; n++) script.asks("strike 0 " + n + " = 1", "many 1 = " + Math.min(n + 1, 8));
            script.asks("strike 0 0 ! 5", "strike 1 9 ! 5", "many 1 = " + Math.min(acts, 8));
            int kept = Math.min(acts, 8);
            for (int left = kept - 1; left >= 0; left--) {
                script.asks("undo = " + left, "number 0 1 = " + (acts - kept + left), "many 1 = " + left);
            }
            script.asks("undo ! 5", "number 0 1 = " + (acts - kept), "sieve 0 7 = " + (acts - kept));
        }
        script.begin("15: eight again behind eight undone", "sieve a from 0 by 1 many 20 lucky;");
        for (int n = 0; n < 9; n++) script.asks("strike 0 " + n + " = 1");
        for (int left = 7; left >= 0; left--) script.asks("undo = " + left);
        for (int n = 1; n < 10; n++) script.asks("strike 0 " + n + " = 1");
        for (int left = 7; left >= 0; left--) script.asks("undo = " + left);
        script.asks("undo ! 5", "number 0 1 = 2");
    }

    /** Ten acts of unlike kinds, of unlike SIEVES: the last eight go back, each as it was. */
    private static void undoEightUnlike() {
        script.begin("15: of ten unlike acts the last eight", THREE);
        script.asks("round 0 = 3", "drop 1 = 2", "strike 1 0 = 1", "make 1 7 1 9 = 2", "drop 0 = 2", "longer 1 4 = 4",
            "make 2 8 1 9 = 2", "round 0 = 1", "drop 1 = 2", "strike 1 9 = 2", "many 1 = 8");
        script.asks("undo = 7", "number 1 2 = 9", "sieve 1 7 = 0", "undo = 6", "many 0 = 3", "sieve 1 1 = 7", "sieve 1 3 = 4",
            "sieve 2 1 = 8", "undo = 5", "sieve 0 5 = 0", "sieve 0 7 = 1", "undo = 4", "many 0 = 2", "sieve 1 1 = 7", "undo = 3",
            "sieve 1 3 = 9", "undo = 2", "many 0 = 3", "sieve 0 0 = 0", "sieve 0 5 = 1", "sieve 1 0 = 5", "sieve 2 1 = 7", "undo = 1",
            "many 0 = 2", "undo = 0", "rank 1 0 = 1", "sieve 1 4 = 4", "undo ! 5", "sieve 0 5 = 1", "sieve 1 0 = 5", "many 0 = 2");
    }

    /** What ROUNDS told comes back, though ROUNDS were done anew between. */
    private static void undoWhatRoundsTold() {
        script.begin("15: the GAPS, and which PLACES hands had spared", THREE);
        script.asks("strike 0 3 = 2", "round 0 = 1", "strike 0 1 = 1", "told 0 1 0 = 5", "told 0 1 1 = 1", "told 0 1 2 = 11",
            "back 0 1 5 = 6", "fate 0 11 1 = 5", "longer 0 12 = 8", "told 0 1 0 = 3", "told 0 1 1 = 4", "told 0 1 2 = 5", "undo = 3",
            "told 0 1 0 = 5", "told 0 1 1 = 1", "told 0 1 2 = 11", "told 0 1 3 = 8", "back 0 1 5 = 6", "ahead 0 1 6 = 5",
            "fate 0 11 0 = 1", "fate 0 11 1 = 5", "fate 0 1 0 = 0", "fate 0 3 1 = 2", "undo = 2", "undo = 1", "told 0 1 0 ! 5",
            "fate 0 11 0 ! 5", "fate 0 3 0 = 0");
        script.begin("12: fixed ROUNDS, as many as were", "sieve a from 1 by 1 many 20 fixed 3 rounds 4;");
        script.asks("round 0 = 6", "round 0 = 4", "longer 0 9 = 4", "sieve 0 5 = 2", "sieve 0 6 = 0", "all 0 = 2", "sieve 0 6 = 1",
            "told 0 4 0 = 3", "longer 0 20 = 5", "sieve 0 5 = 4", "round 0 ! 5");
    }

    /** Calls that are no ACTS, and acts that are refused. */
    private static void noActs() {
        script.begin("15: what is no act", THREE);
        script.asks("would 0 1 = 1", "till 0 6 = 2", "guess 0 = 0", "print 0 = 4", "out 0 = 49", "ring 0 2 -1 = 9",
            "feed 0 0 0 0 0 = 40", "load 41 ! 1", "round 3 ! 2", "longer 0 10 ! 4", "make 4 0 0 0 ! 1", "drop 3 ! 2", "many 1 = 0",
            "undo ! 5");
    }

    /** "load() forgets them": with STATUS 0 alone. */
    private static void loadForgets() {
        script.begin("15: load() forgets", THREE);
        script.asks("round 0 = 3", "make 0 1 1 9 = 3", "load 21 ! 1", "many 1 = 2", "load 20 = 0", "many 1 = 0", "undo ! 5",
            "many 0 = 0");
        script.begin("15: a load() with 9 does not", THREE);
        script.asks("round 0 = 3", "make 0 1 1 9 = 3", "load 3 ! 9", "many 1 = 2", "undo = 1", "many 0 = 3", "undo = 0",
            "sieve 0 5 = 0", "undo ! 5");
    }
}
