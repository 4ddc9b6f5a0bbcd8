/** Promises 26 to 45 and the terms' paragraph 3: one number, two numbers, 600; the first and the last that can be asked. */
public final class GapsBoundsTest {
    /** a, when it is done: 1 3 7 9 13 15 21 25 31 33 37, whose gaps are 2 4 2 4 2 6 4 6 2 4. b: 0 1. c: 5 alone. d: 0 to 599. */
    private static final String FOUR = "sieve a from 1 by 2 many 20 lucky; sieve b from 0 by 1 many 2 flavius;"
        + "sieve c from 5 by 3 many 2 flavius; sieve d from 0 by 1 many 600 flavius; list e 1;";
    private static final Script script = new Script("GapsBoundsTest");

    public static void main(String[] args) {
        gap();
        gaps();
        gapsOf();
        record();
        pairs();
        triples();
        sums();
        misses();
        run();
        runsBetweenHands();
        progression();
        rests();
        ring();
        ringOfMany();
        chain();
        chainEnds();
        spread();
        sketch();
        sketchCells();
        balance();
        pattern();
        mirror();
        half();
        usual();
        greatest();
        script.end();
    }

    private static void four(String sentence) {
        script.begin(sentence, FOUR);
        script.asks("all 0 = 3", "round 2 = 1");
    }

    /** The numbers from a first one on by 1, but those told. */
    private static void row(String sentence, int from, int many, int... struck) {
        script.begin(sentence, "sieve a from " + from + " by 1 many " + many + " flavius;");
        for (int n : struck) script.asks("strike 0 " + n + " = " + placeAhead(from, n, struck));
    }

    private static int placeAhead(int from, int n, int[] struck) {
        int place = n - from + 1;
        for (int other : struck) {
            if (other == n) return place;
            if (other < n) place--;
        }
        return place;
    }

    /** No SIEVE 4, none below 0; and what can't be is told ahead of that. */
    private static void noSieve(String call, String args, String wrongArgs) {
        script.asks(call + " 4" + args + " ! 2", call + " -1" + args + " ! 2", call + " least" + args + " ! 2", call + " most" + args + " ! 2");
        if (!wrongArgs.isEmpty()) script.asks(call + " 4" + wrongArgs + " ! 1", call + " -1" + wrongArgs + " ! 1", call + " 0" + wrongArgs + " ! 1");
    }

    /** "GAP of PLACE p (1: p below 1; 2; 5: no next one)." */
    private static void gap() {
        four("26: p from 1 to the last but one");
        script.asks("gap 0 1 = 2", "gap 0 2 = 4", "gap 0 10 = 4", "gap 0 11 ! 5", "gap 0 12 ! 5", "gap 0 most ! 5", "gap 0 0 ! 1",
            "gap 0 -1 ! 1", "gap 0 least ! 1", "gap 1 1 = 1", "gap 1 2 ! 5", "gap 2 1 ! 5", "gap 2 0 ! 1", "gap 3 599 = 1",
            "gap 3 600 ! 5");
        noSieve("gap", " 1", " 0");
        script.asks("strike 0 37 = 11", "gap 0 9 = 2", "gap 0 10 ! 5", "strike 0 3 = 2", "gap 0 1 = 6");
    }

    /** "what 0: the greatest GAP, 1: the first PLACE with it, 2: how many have it, 3: how many unlike GAPS there are (1; 2; 5: one number alone)". */
    private static void gaps() {
        four("27: what 0 to 3");
        script.asks("gaps 0 0 = 6", "gaps 0 1 = 6", "gaps 0 2 = 2", "gaps 0 3 = 3", "gaps 0 -1 ! 1", "gaps 0 4 ! 1", "gaps 0 least ! 1",
            "gaps 0 most ! 1", "gaps 2 0 ! 5", "gaps 2 1 ! 5", "gaps 2 2 ! 5", "gaps 2 3 ! 5", "gaps 2 4 ! 1", "gaps 1 0 = 1",
            "gaps 1 1 = 1", "gaps 1 2 = 1", "gaps 1 3 = 1", "gaps 3 0 = 1", "gaps 3 1 = 1", "gaps 3 2 = 599", "gaps 3 3 = 1");
        noSieve("gaps", " 0", " 4");
        row("27: the greatest at the first PLACE", 1, 5, 2);
        script.asks("gaps 0 0 = 2", "gaps 0 1 = 1", "gaps 0 2 = 1", "gaps 0 3 = 2");
        row("27: the greatest at the last PLACE", 1, 5, 4);
        script.asks("gaps 0 0 = 2", "gaps 0 1 = 3", "gaps 0 2 = 1", "gaps 0 3 = 2");
        row("27: of several the first", 1, 9, 3, 5, 8);
        script.asks("gaps 0 0 = 2", "gaps 0 1 = 2", "gaps 0 2 = 3", "gaps 0 3 = 2");
    }

    /** "How many GAPS are d (2)." */
    private static void gapsOf() {
        four("28: d that is, that is not");
        script.asks("gapsOf 0 2 = 4", "gapsOf 0 4 = 4", "gapsOf 0 6 = 2", "gapsOf 0 1 = 0", "gapsOf 0 3 = 0", "gapsOf 0 8 = 0",
            "gapsOf 0 0 = 0", "gapsOf 0 -1 = 0", "gapsOf 0 -2 = 0", "gapsOf 0 least = 0", "gapsOf 0 most = 0", "gapsOf 1 1 = 1",
            "gapsOf 2 1 = 0", "gapsOf 2 0 = 0", "gapsOf 2 -1 = 0", "gapsOf 2 3 = 0", "gapsOf 3 1 = 599", "gapsOf 3 2 = 0");
        noSieve("gapsOf", " 1", "");
    }

    /** "how many (k NONE), the PLACE of the k-th (from 0 on) (1: k below NONE; 2; 5: not so many)". "(the first one is one)". */
    private static void record() {
        four("29: k from NONE to how many");
        script.asks("record 0 -1 = 3", "record 0 0 = 1", "record 0 1 = 2", "record 0 2 = 6", "record 0 3 ! 5", "record 0 most ! 5",
            "record 0 -2 ! 1", "record 0 least ! 1", "record 1 -1 = 1", "record 1 0 = 1", "record 1 1 ! 5", "record 2 -1 = 0",
            "record 2 0 ! 5", "record 2 -2 ! 1", "record 3 -1 = 1", "record 3 0 = 1", "record 3 1 ! 5");
        noSieve("record", " -1", " -2");
        row("29: as great as one ahead is none", 1, 9, 2, 5, 7, 8);
        script.asks("record 0 -1 = 2", "record 0 0 = 1", "record 0 1 = 4", "record 0 2 ! 5");
    }

    /** "PAIRS by d (1 and more), what 0: how many, 1: the first one's lesser number, 2: the last one's (1; 2; 5 of 1, 2: none)". */
    private static void pairs() {
        four("30: d 1 and more, what 0 to 2");
        script.asks("pairs 0 0 0 ! 1", "pairs 0 -1 0 ! 1", "pairs 0 least 0 ! 1", "pairs 0 1 0 = 0", "pairs 0 1 1 ! 5",
            "pairs 0 1 2 ! 5", "pairs 0 2 0 = 4", "pairs 0 2 1 = 1", "pairs 0 2 2 = 31", "pairs 0 36 0 = 1", "pairs 0 36 1 = 1",
            "pairs 0 36 2 = 1", "pairs 0 37 0 = 0", "pairs 0 38 0 = 0", "pairs 0 38 1 ! 5", "pairs 0 most 0 = 0", "pairs 0 most 1 ! 5",
            "pairs 0 most 2 ! 5", "pairs 0 2 -1 ! 1", "pairs 0 2 3 ! 1");
        script.asks("pairs 1 1 0 = 1", "pairs 1 1 1 = 0", "pairs 1 1 2 = 0", "pairs 1 2 0 = 0", "pairs 1 2 1 ! 5", "pairs 2 1 0 = 0",
            "pairs 2 1 1 ! 5", "pairs 2 3 0 = 0", "pairs 3 1 0 = 599", "pairs 3 1 2 = 598", "pairs 3 599 0 = 1", "pairs 3 599 2 = 0",
            "pairs 3 600 0 = 0");
        noSieve("pairs", " 1 0", " 0 0");
        noSieve("pairs", " 1 0", " 1 3");
    }

    /** "TRIPLES by d, e (1; 2)." "(e above d)". */
    private static void triples() {
        four("31: d 1 and more, e above d");
        script.asks("triples 0 2 6 = 3", "triples 0 1 2 = 0", "triples 0 2 3 = 0", "triples 0 2 2 ! 1", "triples 0 2 1 ! 1",
            "triples 0 2 0 ! 1", "triples 0 2 -1 ! 1", "triples 0 0 1 ! 1", "triples 0 -1 1 ! 1", "triples 0 -2 -1 ! 1",
            "triples 0 least most ! 1", "triples 0 most most ! 1", "triples 0 1 most = 0", "triples 0 2 most = 0",
            "triples 0 30 36 = 1", "triples 0 2 36 = 1", "triples 0 2 38 = 0", "triples 0 36 38 = 0");
        script.asks("triples 1 1 2 = 0", "triples 2 1 2 = 0", "triples 2 3 6 = 0", "triples 3 1 2 = 598", "triples 3 1 599 = 1",
            "triples 3 598 599 = 1", "triples 3 1 600 = 0");
        noSieve("triples", " 1 2", " 2 2");
        noSieve("triples", " 1 2", " 0 2");
        row("31: three numbers", 7, 3);
        script.asks("triples 0 1 2 = 1", "triples 0 1 3 = 0", "strike 0 8 = 2", "triples 0 1 2 = 0");
    }

    /** "In how many ways n is a SUM (each two once) (2)." "(one twice, too)". */
    private static void sums() {
        four("32: n below, at, above the SUMS");
        script.asks("sums 0 2 = 1", "sums 0 1 = 0", "sums 0 0 = 0", "sums 0 -2 = 0", "sums 0 4 = 1", "sums 0 3 = 0", "sums 0 14 = 2",
            "sums 0 74 = 1", "sums 0 75 = 0", "sums 0 76 = 0", "sums 0 70 = 1", "sums 0 72 = 0", "sums 0 least = 0", "sums 0 most = 0",
            "sums 1 -1 = 0", "sums 1 0 = 1", "sums 1 1 = 1", "sums 1 2 = 1", "sums 1 3 = 0", "sums 2 10 = 1", "sums 2 5 = 0",
            "sums 2 9 = 0", "sums 2 11 = 0", "sums 2 0 = 0", "sums 3 0 = 1", "sums 3 599 = 300", "sums 3 600 = 300", "sums 3 1198 = 1",
            "sums 3 1199 = 0", "sums 3 1197 = 1");
        noSieve("sums", " 2", "");
    }

    /** "from twice the first one on, a multiple of m (1 to 99) more than that (0 times, too), no more than twice the last one (1; 2; 5: all are)". */
    private static void misses() {
        four("33: m from 1 to 99");
        script.asks("misses 0 0 ! 1", "misses 0 -1 ! 1", "misses 0 least ! 1", "misses 0 100 ! 1", "misses 0 most ! 1",
            "misses 0 1 = 3", "misses 0 99 ! 5", "misses 0 2 = 60", "misses 0 35 = 37", "misses 0 70 = 72", "misses 0 71 = 73",
            "misses 0 72 ! 5", "misses 0 73 ! 5", "misses 0 58 = 60", "misses 1 1 ! 5", "misses 1 2 ! 5", "misses 1 99 ! 5",
            "misses 2 1 ! 5", "misses 3 1 ! 5", "misses 3 99 ! 5");
        noSieve("misses", " 1", " 0");
        noSieve("misses", " 1", " 100");
        row("33: two that are not next to each other", 1, 3, 2);
        script.asks("misses 0 1 = 3", "misses 0 2 ! 5", "misses 0 3 = 5", "misses 0 4 ! 5");
        row("33: one less than a number of the ROW; the last SUM", 1, 4, 2, 3);
        script.asks("misses 0 1 = 3", "misses 0 2 = 4", "misses 0 3 ! 5", "misses 0 4 = 6", "misses 0 5 = 7", "misses 0 6 ! 5",
            "misses 0 7 ! 5");
    }

    /** "The longest RUN, what 0: how many PLACES, 1: the first of its PLACES, of several the first (1; 2)." */
    private static void run() {
        four("34: what 0 and 1");
        script.asks("run 0 0 = 2", "run 0 1 = 1", "run 0 -1 ! 1", "run 0 2 ! 1", "run 0 least ! 1", "run 0 most ! 1", "run 1 0 = 2",
            "run 1 1 = 1", "run 2 0 = 1", "run 2 1 = 1", "run 3 0 = 600", "run 3 1 = 1");
        noSieve("run", " 0", " 2");
    }

    private static void runsBetweenHands() {
        row("34: the first one the longest", 1, 9, 5, 8);
        script.asks("run 0 0 = 4", "run 0 1 = 1");
        row("34: of several the first", 1, 9, 5);
        script.asks("run 0 0 = 4", "run 0 1 = 1");
        row("34: the last one the longest", 1, 9, 4);
        script.asks("run 0 0 = 5", "run 0 1 = 4");
        row("34: one in the middle", 1, 9, 2, 6, 8);
        script.asks("run 0 0 = 3", "run 0 1 = 2");
        row("34: no GAP is BY", 1, 5, 2, 4);
        script.asks("run 0 0 = 1", "run 0 1 = 1");
        row("34: one PLACE more than the first", 1, 5, 3);
        script.asks("run 0 0 = 2", "run 0 1 = 1", "strike 0 1 = 1", "run 0 0 = 2", "run 0 1 = 2");
    }

    /** "The longest PROGRESSION by d (1 and more), what 0: how many, 1: its first number, of several the least (1; 2)." */
    private static void progression() {
        four("35: d 1 and more, what 0 and 1");
        script.asks("progression 0 0 0 ! 1", "progression 0 -1 1 ! 1", "progression 0 least 0 ! 1", "progression 0 1 0 = 1",
            "progression 0 1 1 = 1", "progression 0 2 0 = 2", "progression 0 2 1 = 1", "progression 0 6 0 = 4", "progression 0 6 1 = 3",
            "progression 0 12 0 = 4", "progression 0 12 1 = 1", "progression 0 36 0 = 2", "progression 0 36 1 = 1",
            "progression 0 38 0 = 1", "progression 0 38 1 = 1", "progression 0 most 0 = 1", "progression 0 most 1 = 1",
            "progression 0 6 -1 ! 1", "progression 0 6 2 ! 1", "progression 0 6 least ! 1", "progression 0 6 most ! 1");
        script.asks("progression 1 1 0 = 2", "progression 1 1 1 = 0", "progression 1 2 0 = 1", "progression 1 2 1 = 0",
            "progression 2 1 0 = 1", "progression 2 1 1 = 5", "progression 2 3 0 = 1", "progression 3 1 0 = 600",
            "progression 3 1 1 = 0", "progression 3 599 0 = 2", "progression 3 599 1 = 0", "progression 3 600 0 = 1",
            "progression 3 2 0 = 300", "progression 3 2 1 = 0");
        noSieve("progression", " 1 0", " 0 0");
        noSieve("progression", " 1 0", " 1 2");
        row("35: the later one is longer", 1, 9, 4);
        script.asks("progression 0 1 0 = 5", "progression 0 1 1 = 5", "progression 0 4 0 = 3", "progression 0 4 1 = 1",
            "progression 0 3 0 = 3", "progression 0 3 1 = 2");
    }

    /** "How many numbers have a rest of c by m (1 to 999; c 0 to m less 1), or (c NONE) how many rests there are (1; 2)." */
    private static void rests() {
        four("36: m from 1 to 999, c from NONE to m less 1");
        script.asks("rests 0 0 0 ! 1", "rests 0 0 -1 ! 1", "rests 0 -1 0 ! 1", "rests 0 -3 -1 ! 1", "rests 0 least -1 ! 1",
            "rests 0 1000 0 ! 1", "rests 0 1000 -1 ! 1", "rests 0 most 0 ! 1", "rests 0 1 0 = 11", "rests 0 1 1 ! 1",
            "rests 0 1 -1 = 1", "rests 0 1 -2 ! 1", "rests 0 3 0 = 5", "rests 0 3 1 = 6", "rests 0 3 2 = 0", "rests 0 3 3 ! 1",
            "rests 0 3 -1 = 2", "rests 0 3 -2 ! 1", "rests 0 3 least ! 1", "rests 0 3 most ! 1");
        script.asks("rests 0 999 0 = 0", "rests 0 999 1 = 1", "rests 0 999 37 = 1", "rests 0 999 998 = 0", "rests 0 999 999 ! 1",
            "rests 0 999 -1 = 11", "rests 1 2 0 = 1", "rests 1 2 1 = 1", "rests 1 2 -1 = 2", "rests 1 1 -1 = 1", "rests 2 5 0 = 1",
            "rests 2 5 -1 = 1", "rests 2 6 5 = 1", "rests 3 999 599 = 1", "rests 3 999 600 = 0", "rests 3 999 -1 = 600",
            "rests 3 600 -1 = 600", "rests 3 599 -1 = 599", "rests 3 599 0 = 2", "rests 3 599 598 = 1", "rests 3 1 0 = 600");
        noSieve("rests", " 1 0", " 0 0");
        noSieve("rests", " 1 0", " 3 3");
        noSieve("rests", " 1 -1", " 3 -2");
    }

    /** "RING by g: the k-th that is struck (from 0 on), or (k NONE) the last one (1: g below 1, k below NONE; 2; 5: not so many)." */
    private static void ring() {
        four("37: g 1 and more, k from NONE to the row's last");
        script.asks("ring 0 0 0 ! 1", "ring 0 -1 0 ! 1", "ring 0 least -1 ! 1", "ring 0 1 -2 ! 1", "ring 0 1 least ! 1",
            "ring 0 0 -2 ! 1", "ring 0 1 -1 = 37", "ring 0 1 0 = 1", "ring 0 1 10 = 37", "ring 0 1 11 ! 5", "ring 0 1 most ! 5",
            "ring 0 most most ! 5", "ring 0 11 0 = 37", "ring 0 12 0 = 1", "ring 0 10 0 = 33", "ring 0 2 0 = 3", "ring 0 2 4 = 33",
            "ring 0 2 5 = 1", "ring 0 2 10 = 21", "ring 0 2 -1 = 21");
        script.asks("ring 1 1 0 = 0", "ring 1 1 1 = 1", "ring 1 1 2 ! 5", "ring 1 2 0 = 1", "ring 1 2 1 = 0", "ring 1 2 -1 = 0",
            "ring 1 3 0 = 0", "ring 1 3 -1 = 1", "ring 1 most 0 = 0", "ring 1 most 1 = 1", "ring 2 1 0 = 5", "ring 2 1 -1 = 5",
            "ring 2 1 1 ! 5", "ring 2 most -1 = 5", "ring 2 most 0 = 5");
        noSieve("ring", " 1 0", " 0 0");
        noSieve("ring", " 1 0", " 1 -2");
        script.asks("sieve 0 4 = 11", "number 0 11 = 37", "many 1 = 2");
    }

    /** By the remainder of g less 1 by how many are left; the last one by 2 is twice what 600 has above 512. */
    private static void ringOfMany() {
        four("37: a ring of 600");
        script.asks("ring 3 600 0 = 599", "ring 3 601 0 = 0", "ring 3 1 599 = 599", "ring 3 1 600 ! 5", "ring 3 2 -1 = 176",
            "ring 3 2 599 = 176", "ring 3 2 600 ! 5", "ring 3 2 299 = 599", "ring 3 2 300 = 2", "ring 3 most 0 = 246");
    }

    /** "what 0: how many numbers it has, 1: its last one, 2: 1 if it ends as the next one came already, else 0 (1; 2; 5: the number is not in the ROW)". */
    private static void chain() {
        four("38: what 0 to 2, numbers of the ROW");
        script.asks("chain 0 1 0 = 1", "chain 0 1 1 = 1", "chain 0 1 2 = 1", "chain 0 3 0 = 3", "chain 0 3 1 = 21", "chain 0 3 2 = 0",
            "chain 0 37 0 = 1", "chain 0 37 1 = 37", "chain 0 37 2 = 0", "chain 0 3 -1 ! 1", "chain 0 3 3 ! 1", "chain 0 3 least ! 1",
            "chain 0 3 most ! 1", "chain 0 5 0 ! 5", "chain 0 2 1 ! 5", "chain 0 0 0 ! 5", "chain 0 -1 2 ! 5", "chain 0 39 0 ! 5",
            "chain 0 least 0 ! 5", "chain 0 most 0 ! 5", "chain 0 5 3 ! 1");
        script.asks("chain 1 0 0 = 1", "chain 1 0 1 = 0", "chain 1 0 2 = 0", "chain 1 1 0 = 2", "chain 1 1 1 = 0", "chain 1 1 2 = 0",
            "chain 2 5 0 = 1", "chain 2 5 1 = 5", "chain 2 5 2 = 0", "chain 2 8 0 ! 5", "chain 3 599 0 = 600", "chain 3 599 1 = 0",
            "chain 3 599 2 = 0", "chain 3 600 0 ! 5", "chain 3 0 0 = 1");
        noSieve("chain", " 1 0", " 1 3");
    }

    /** "till there is none, or it is one that came already". */
    private static void chainEnds() {
        row("38: the PLACE behind the last", 2, 5);
        script.asks("chain 0 5 0 = 2", "chain 0 5 1 = 6", "chain 0 5 2 = 0", "chain 0 6 0 = 1", "chain 0 6 1 = 6", "chain 0 6 2 = 0",
            "chain 0 2 0 = 5", "chain 0 2 1 = 6");
        row("38: each stands at the PLACE it tells", 1, 9);
        script.asks("chain 0 9 0 = 1", "chain 0 9 1 = 9", "chain 0 9 2 = 1", "chain 0 1 2 = 1");
        row("38: it came already, if later than the first", 0, 9, 4);
        script.asks("chain 0 8 0 = 1", "chain 0 8 2 = 1", "chain 0 5 2 = 1", "chain 0 3 0 = 4", "chain 0 3 1 = 0", "chain 0 3 2 = 0");
        row("38: the last of two came already", 1, 9, 2, 3, 4, 5, 6, 7);
        script.asks("chain 0 8 0 = 1", "chain 0 8 2 = 0", "chain 0 1 2 = 1");
        row("38: the last PLACE, and the one behind it", 1, 9, 1);
        script.asks("chain 0 2 0 = 8", "chain 0 2 1 = 9", "chain 0 2 2 = 0", "chain 0 8 1 = 9", "chain 0 9 2 = 0");
    }

    /** "SPREAD by w, what 0: it, 1: the first of the PLACES, of several the first (1: w below 2; 2; 5: the ROW has not so many)." */
    private static void spread() {
        four("39: w from 2 to how many the ROW has");
        script.asks("spread 0 2 0 = 2", "spread 0 2 1 = 1", "spread 0 1 0 ! 1", "spread 0 0 0 ! 1", "spread 0 -1 1 ! 1",
            "spread 0 least 0 ! 1", "spread 0 11 0 = 36", "spread 0 11 1 = 1", "spread 0 12 0 ! 5", "spread 0 12 1 ! 5",
            "spread 0 most 0 ! 5", "spread 0 10 0 = 32", "spread 0 10 1 = 1", "spread 0 2 -1 ! 1", "spread 0 2 2 ! 1",
            "spread 0 2 least ! 1", "spread 0 12 2 ! 1", "spread 1 2 0 = 1", "spread 1 2 1 = 1", "spread 1 3 0 ! 5", "spread 2 2 0 ! 5",
            "spread 2 1 0 ! 1", "spread 3 600 0 = 599", "spread 3 600 1 = 1", "spread 3 601 0 ! 5", "spread 3 2 0 = 1",
            "spread 3 2 1 = 1");
        noSieve("spread", " 2 0", " 1 0");
        noSieve("spread", " 2 0", " 2 2");
        row("39: at the last PLACES", 1, 9, 2, 4, 6);
        script.asks("spread 0 3 0 = 2", "spread 0 3 1 = 4", "spread 0 2 1 = 4", "spread 0 6 0 = 8");
        row("39: of several the first", 1, 9, 2, 6);
        script.asks("spread 0 3 0 = 2", "spread 0 3 1 = 2", "spread 0 2 1 = 2");
    }

    /** "SKETCH by w (1 to 600), CELL k (from 0 on), or (k NONE) how many CELLS there are (1: k below NONE; 2; 5: not so many)." */
    private static void sketch() {
        four("40: w from 1 to 600, k from NONE to the last CELL");
        script.asks("sketch 0 0 0 ! 1", "sketch 0 -1 0 ! 1", "sketch 0 least 0 ! 1", "sketch 0 601 0 ! 1", "sketch 0 most -1 ! 1",
            "sketch 0 5 -2 ! 1", "sketch 0 5 least ! 1", "sketch 0 5 -1 = 4", "sketch 0 5 0 = 4", "sketch 0 5 3 = 3",
            "sketch 0 5 4 ! 5", "sketch 0 5 most ! 5", "sketch 0 1 -1 = 20", "sketch 0 1 0 = 1", "sketch 0 1 18 = 1",
            "sketch 0 1 19 = 0", "sketch 0 1 20 ! 5", "sketch 0 600 -1 = 1", "sketch 0 600 0 = 11", "sketch 0 600 1 ! 5",
            "sketch 0 19 -1 = 2", "sketch 0 19 0 = 11", "sketch 0 19 1 = 0", "sketch 0 20 -1 = 1", "sketch 0 20 1 ! 5",
            "sketch 0 21 -1 = 1");
        script.asks("sketch 1 1 -1 = 2", "sketch 1 2 -1 = 1", "sketch 1 1 1 = 1", "sketch 1 1 2 ! 5", "sketch 2 1 -1 = 2",
            "sketch 2 1 0 = 1", "sketch 2 1 1 = 0", "sketch 2 1 2 ! 5", "sketch 2 2 0 = 1", "sketch 3 1 -1 = 600", "sketch 3 1 599 = 1",
            "sketch 3 1 600 ! 5", "sketch 3 600 -1 = 1", "sketch 3 600 0 = 600", "sketch 3 599 -1 = 2", "sketch 3 599 0 = 599",
            "sketch 3 599 1 = 1", "sketch 3 599 2 ! 5", "sketch 3 600 most ! 5", "sketch 3 2 299 = 2");
        noSieve("sketch", " 5 0", " 0 0");
        noSieve("sketch", " 5 0", " 601 0");
        noSieve("sketch", " 5 0", " 5 -2");
    }

    /** "CELLS of w numbers each from FROM on (FROM to FROM and w times BY less 1, and so on), till the last number at first". */
    private static void sketchCells() {
        four("40: CELLS of three numbers, the last one of two");
        int[] cells = {2, 2, 2, 1, 1, 2, 1};
        script.asks("sketch 0 3 -1 = 7", "sketch 0 3 7 ! 5");
        for (int k = 0; k < 7; k++) script.asks("sketch 0 3 " + k + " = " + cells[k]);
        script.asks("longer 0 21 = 11", "sketch 0 3 -1 = 7", "sketch 0 3 6 = 1", "longer 0 22 = 12", "sketch 0 3 -1 = 8",
            "sketch 0 3 7 = 1");
        script.begin("40: a CELL begins at FROM, though FROM was struck", "sieve a from 3 by 4 many 5 lucky;");
        script.asks("strike 0 3 = 1", "strike 0 11 = 2", "sketch 0 2 0 = 1", "sketch 0 2 1 = 1", "sketch 0 2 2 = 1",
            "sketch 0 2 -1 = 3", "sketch 0 1 0 = 0", "sketch 0 1 1 = 1", "sketch 0 1 2 = 0", "sketch 0 1 4 = 1", "sketch 0 1 5 ! 5");
    }

    /** "BALANCE at PLACE p (1: p below 1; 2; 5: the ROW has not so many)." */
    private static void balance() {
        four("41: p from 1 to how many the ROW has");
        script.asks("balance 0 1 = 0", "balance 0 3 = 2", "balance 0 11 = 16", "balance 0 12 ! 5", "balance 0 20 ! 5",
            "balance 0 most ! 5", "balance 0 0 ! 1", "balance 0 -1 ! 1", "balance 0 least ! 1", "balance 1 2 = 0", "balance 1 3 ! 5",
            "balance 2 1 = 0", "balance 2 2 ! 5", "balance 3 600 = 0", "balance 3 601 ! 5");
        noSieve("balance", " 1", " 0");
        script.begin("41: more than the one that stood there at first", "sieve a from 999 by 99 many 600 lucky;");
        script.asks("strike 0 999 = 1", "balance 0 1 = 99", "balance 0 599 = 99", "balance 0 600 ! 5", "strike 0 1197 = 2",
            "balance 0 1 = 99", "balance 0 2 = 198", "longer 0 599 = 599", "balance 0 1 = 0");
    }

    /** "How many times GAPS d, e (d, e 1 and more; f above 0: and f behind them) stand one behind the other (1: f below 0, too; 2)." */
    private static void pattern() {
        four("42: d, e 1 and more, f 0 and more");
        script.asks("pattern 0 0 4 0 ! 1", "pattern 0 2 0 0 ! 1", "pattern 0 2 4 -1 ! 1", "pattern 0 -2 4 0 ! 1",
            "pattern 0 2 -4 0 ! 1", "pattern 0 least 4 0 ! 1", "pattern 0 2 least 0 ! 1", "pattern 0 2 4 least ! 1",
            "pattern 0 1 4 0 = 0", "pattern 0 2 1 0 = 0", "pattern 0 2 4 0 = 3", "pattern 0 2 4 1 = 0", "pattern 0 2 4 2 = 2",
            "pattern 0 4 2 4 = 1", "pattern 0 6 2 0 = 1", "pattern 0 6 2 4 = 1", "pattern 0 2 6 4 = 1", "pattern 0 4 6 2 = 1",
            "pattern 0 4 6 0 = 1", "pattern 0 most 4 0 = 0", "pattern 0 2 most 0 = 0", "pattern 0 2 4 most = 0", "pattern 1 1 1 0 = 0",
            "pattern 2 1 1 0 = 0", "pattern 2 3 3 3 = 0", "pattern 3 1 1 0 = 598", "pattern 3 1 1 1 = 597");
        noSieve("pattern", " 1 1 0", " 0 1 0");
        noSieve("pattern", " 1 1 0", " 1 0 0");
        noSieve("pattern", " 1 1 0", " 1 1 -1");
        row("42: two GAPS", 4, 3);
        script.asks("pattern 0 1 1 0 = 1", "pattern 0 1 1 1 = 0", "longer 0 4 = 4", "pattern 0 1 1 0 = 2", "pattern 0 1 1 1 = 1",
            "longer 0 2 = 2", "pattern 0 1 1 0 = 0");
    }

    /** "what 0: how many GAPS, 1: the PLACE of its first one, of several rows the first (1; 2; 5: one number alone)". */
    private static void mirror() {
        four("43: what 0 and 1");
        script.asks("mirror 0 0 = 7", "mirror 0 1 = 4", "mirror 0 -1 ! 1", "mirror 0 2 ! 1", "mirror 0 least ! 1", "mirror 0 most ! 1",
            "mirror 1 0 = 1", "mirror 1 1 = 1", "mirror 2 0 ! 5", "mirror 2 1 ! 5", "mirror 2 2 ! 1", "mirror 3 0 = 599",
            "mirror 3 1 = 1");
        noSieve("mirror", " 0", " 2");
        row("43: two unlike GAPS", 1, 4, 3);
        script.asks("mirror 0 0 = 1", "mirror 0 1 = 1");
        row("43: two like GAPS", 1, 3);
        script.asks("mirror 0 0 = 2", "mirror 0 1 = 1");
        row("43: an even row of GAPS at the end", 1, 9, 3, 4, 6, 8);
        script.asks("gap 0 1 = 1", "gap 0 2 = 3", "gap 0 3 = 2", "gap 0 4 = 2", "mirror 0 0 = 2", "mirror 0 1 = 3");
        row("43: an odd row of GAPS at the end", 1, 7, 2, 3, 5);
        script.asks("gap 0 1 = 3", "gap 0 2 = 2", "gap 0 3 = 1", "mirror 0 0 = 1", "longer 0 8 = 8", "strike 0 2 = 2", "strike 0 3 = 2",
            "strike 0 6 = 4", "mirror 0 0 = 3", "mirror 0 1 = 2");
        row("43: of several rows the first, at the first PLACE", 1, 10, 3, 6, 7);
        script.asks("gap 0 2 = 2", "gap 0 3 = 1", "gap 0 4 = 3", "gap 0 5 = 1", "mirror 0 0 = 3", "mirror 0 1 = 1");
        row("43: of several rows the first, behind it", 1, 11, 4, 7, 8);
        script.asks("gap 0 3 = 2", "gap 0 5 = 3", "mirror 0 0 = 3", "mirror 0 1 = 2");
        row("43: like rows at both ends", 1, 7, 4);
        script.asks("mirror 0 0 = 5", "strike 0 2 = 2", "mirror 0 0 = 2", "mirror 0 1 = 1");
    }

    /** "the number that as many of the ROW are less than as are greater (of two in the middle the lesser)". */
    private static void half() {
        four("44: of one, two, eleven, 600");
        script.asks("half 2 = 5", "half 1 = 0", "half 0 = 15", "half 3 = 299", "longer 3 599 = 599", "half 3 = 299",
            "longer 3 598 = 598", "half 3 = 298", "strike 0 1 = 1", "half 0 = 15", "strike 0 37 = 10", "half 0 = 15", "strike 0 33 = 9",
            "half 0 = 13", "longer 1 3 = 3", "half 1 = 1");
        noSieve("half", "", "");
    }

    /** "The GAP that comes most often, of several the least (2; 5: one number alone)." */
    private static void usual() {
        four("45: one number, two numbers, several as often");
        script.asks("usual 2 ! 5", "usual 1 = 1", "usual 0 = 2", "usual 3 = 1", "strike 0 1 = 1", "usual 0 = 4", "strike 0 37 = 10",
            "usual 0 = 2");
        noSieve("usual", "", "");
        row("45: the least, though it comes last", 1, 4, 2);
        script.asks("gap 0 1 = 2", "usual 0 = 1");
        row("45: the least, though it comes first", 1, 4, 3);
        script.asks("gap 0 2 = 2", "usual 0 = 1");
        row("45: the greatest one most often", 1, 6, 2, 4);
        script.asks("gapsOf 0 2 = 2", "gapsOf 0 1 = 1", "usual 0 = 2");
    }

    /** 600 numbers up to 60300: GAPS of all widths, numbers next to 2^31 that no sum may go beyond. */
    private static void greatest() {
        script.begin("26 to 45: the greatest numbers", "sieve a from 999 by 99 many 600 lucky; sieve b from 0 by 99 many 600 flavius;");
        script.asks("gap 0 599 = 99", "pairs 0 59301 0 = 1", "pairs 0 59301 1 = 999", "pairs 0 59400 0 = 0", "pairs 0 most 0 = 0",
            "triples 0 99 59301 = 1", "triples 0 2147483646 most = 0", "sums 0 120600 = 1", "sums 0 120601 = 0", "sums 0 1998 = 1",
            "misses 0 99 ! 5", "misses 0 1 = 1999", "progression 0 99 0 = 600", "progression 0 59301 0 = 2",
            "progression 0 59301 1 = 999", "spread 0 600 0 = 59301", "rests 0 99 9 = 600", "rests 0 99 -1 = 1", "sketch 0 600 0 = 600",
            "half 0 = 30600", "usual 0 = 99");
        script.begin("27, 45: GAPS of nine widths", "sieve a from 999 by 99 many 600 told 2 3 5 7 11 13 17 19 23 29 31 37;");
        script.asks("all 0 = 12", "sieve 0 4 = 94", "number 0 94 = 59805", "gaps 0 0 = 1782", "gaps 0 1 = 81", "gaps 0 2 = 1",
            "gaps 0 3 = 9", "gapsOf 0 594 = 25", "gapsOf 0 198 = 21", "usual 0 = 594");
    }
}
