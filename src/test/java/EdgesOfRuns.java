/** Rules and runs: Terms V, promises 23 to 29. */
final class EdgesOfRuns extends Sentences {
    private static final String LOW = "person a 1;person b 1;person c 1;";
    private static final String PAIR = "person a 1;person b 1;";
    private static final int NOBODY = 0;
    private static final int TOLD = 1;
    private static final int NEAR = 2;
    private static final int ANY = 3;
    private static final int BACK = 4;
    private static final int BEST = 5;

    private EdgesOfRuns() {
    }

    static void all() {
        nobody();
        toldAlone();
        near();
        any();
        back();
        best();
        anyAtFirst();
        draws();
        comesAbout();
        tells();
        deaths();
        theDead();
        ruleAnswers();
        beginAnswers();
        goAnswers();
        nowAnswers();
        headAnswers();
        keepAnswers();
        takeAnswers();
    }

    /** With whom NEWS 0 is behind so many TIMES, a having one rule and all others another. */
    private static int afterTimes(String village, int ruleOfA, int k, int others, int times) {
        OneHead x = of(village);
        for (int p = 1; p < x.told(0); p++) {
            x.rule(p, others, 0);
        }
        x.rule(0, ruleOfA, k);
        x.begin(1);
        x.go(times);
        return x.now(0, 0);
    }

    /** With whom NEWS 0 is behind the first TIME, at which a meets somebody. */
    private static int atOnce(String village, int ruleOfA, int k) {
        return afterTimes(village, ruleOfA, k, NOBODY, 1);
    }

    private static void nobody() {
        sentence("0 NOBODY: he tells nothing");
        due("not even whom it is for", afterTimes(PAIR + "meet a b 1;news a b 95 1;", NOBODY, 1, ANY, 4), 0);
        due("the other one may", afterTimes(PAIR + "meet b a 1;meet a b 2;news b a 95 1;", NOBODY, 1, ANY, 4), 0);
    }

    private static void toldAlone() {
        sentence("1 TOLD k: to PERSON k alone");
        String way = LOW + "meet a b 1;meet a c 2;news a b 95 1;";
        due("k", afterTimes(way, TOLD, 1, NOBODY, 1), 1);
        due("another k", afterTimes(way, TOLD, 2, NOBODY, 1), 0);
        due("another k, later", afterTimes(way, TOLD, 2, NOBODY, 2), 2);
        due("not whom it is for", afterTimes(LOW + "meet a b 1;news a b 95 1;", TOLD, 2, NOBODY, 4), 0);
        due("himself", afterTimes(LOW + "meet a b 1;news a b 95 1;", TOLD, 0, NOBODY, 4), 0);
    }

    private static void near() {
        sentence("2 NEAR: to whom it is for, and to who is nearer (SOON of the one met less than his own, both from the "
                + "next TIME on, to whom it is for; none is farthest)");
        due("whom it is for", atOnce(PAIR + "meet a b 1;news a b 95 1;", NEAR, 0), 1);
        due("whom it is for, at a later TIME",
                afterTimes(LOW + "meet a c 1;meet a b 2 chance 10;news a b 95 1;", NEAR, 0, NOBODY, 8), 1);
        due("one who is nearer", atOnce(LOW + "meet a b 1;meet b c 2;meet a c 3;news a c 95 1;", NEAR, 0), 1);
        due("one who is farther", atOnce(LOW + "meet a b 1;meet a c 2;meet b c 3;news a c 95 1;", NEAR, 0), 0);
        String four = LOW + "person d 1;";
        due("one who is as near", atOnce(four
                + "meet a b 1;meet a d 2;meet b d 3;meet d c 4;news a c 95 1;", NEAR, 0), 0);
        due("his own from the next TIME on", atOnce(LOW + "meet a b 1;meet b c 2;news a c 95 1;", NEAR, 0), 1);
        due("for both there is none", atOnce(LOW + "meet a b 1;news a c 95 1;", NEAR, 0), 0);
        due("for the one met there is none",
                atOnce(LOW + "meet a b 1 chance 9;meet a c 2;news a c 95 1;", NEAR, 0), 0);
        OneHead x = of(LOW + "meet a b 22;meet b c 23;news a c 95 1;");
        x.rule(0, NOBODY, 0);
        x.rule(1, NOBODY, 0);
        x.begin(1);
        x.go(6);
        x.rule(0, NEAR, 0);
        x.go(1);
        due("for himself there is none any more", x.now(0, 0), 1);
        x.rule(1, NEAR, 0);
        x.go(1);
        due("to whom it is for at the last TIME", x.now(0, 0), 2);
        due("not by chance", atOnce(LOW + "meet a b 1;meet b c 2 chance 9;meet a c 3;news a c 95 1;", NEAR, 0), 0);
        due("not over one who is barred", atOnce(four
                + "meet a b 1;meet b d 2;meet d c 3;meet a c 4;news a c 95 1;bar d 0;", NEAR, 0), 0);
        due("nearer, but barred", atOnce(LOW + "meet a b 1;meet b c 2;meet a c 3;news a c 95 1;bar b 0;", NEAR, 0), 0);
        due("its HOUR is no matter", atOnce(LOW + "meet a b 1;meet b c 2;meet a c 3;news a c 0 1;", NEAR, 0), 1);
    }

    private static void any() {
        sentence("3 ANY: whoever is met");
        due("whom it is for", atOnce(PAIR + "meet a b 1;news a b 95 1;", ANY, 0), 1);
        due("one who never meets anybody else", atOnce(LOW + "meet a b 1;news a c 95 1;", ANY, 0), 1);
        due("and back again", afterTimes(LOW + "meet a b 1;news a c 95 1;", ANY, 0, ANY, 2), 0);
    }

    private static void back() {
        sentence("4 BACK: to who told it him");
        due("nobody told it him", afterTimes(PAIR + "meet a b 1;news a b 95 1;", BACK, 0, NOBODY, 4), 0);
        String way = LOW + "meet a b 1;meet b c 2;meet a b 3;news a c 95 1;";
        due("not to whom it is for", afterTimes(way, ANY, 0, BACK, 2), 1);
        due("to who told it him", afterTimes(way, ANY, 0, BACK, 3), 0);
        OneHead x = of(LOW + "person d 1;meet a b 1;meet b c 2;meet c b 3;meet b a 4;meet b c 5;news a d 95 1;");
        x.rule(2, BACK, 0);
        x.begin(1);
        x.go(3);
        due("a, b, c and back to b", x.now(0, 0), 1);
        x.rule(1, BACK, 0);
        x.go(1);
        due("it was c who told it b last, not a", x.now(0, 0), 1);
        x.go(1);
        due("back to c", x.now(0, 0), 2);
        OneHead anew = of(way);
        anew.rule(1, BACK, 0);
        anew.begin(1);
        anew.go(3);
        due("b told it back to a", anew.now(0, 0), 0);
        due("it was told twice", anew.now(0, 1), 2);
        anew.begin(1);
        anew.rule(0, BACK, 0);
        anew.go(12);
        due("in a new run nobody told it him", anew.now(0, 0), 0);
        due("in a new run it is never told", anew.now(0, 1), 0);
    }

    private static void best() {
        sentence("5 BEST: to whom it is for, and to who has the greater chance (SUREST of the one met more than his own, "
                + "exactly, from the next TIME on, to whom it is for by its HOUR).");
        due("whom it is for", atOnce(PAIR + "meet a b 1;news a b 95 1;", BEST, 0), 1);
        due("whom it is for, behind its HOUR", atOnce(PAIR + "meet a b 1;news a b 0 1;", BEST, 0), 1);
        String two = "meet b c 2 chance 6;meet a c 3 chance 5;";
        due("more", atOnce(LOW + "meet a b 1;" + two + "news a c 23 1;", BEST, 0), 1);
        due("less", atOnce(LOW + "meet a b 1;" + two.replace("6", "4") + "news a c 23 1;", BEST, 0), 0);
        due("as much", atOnce(LOW + "meet a b 1;" + two.replace("6", "5") + "news a c 23 1;", BEST, 0), 0);
        due("none for both", atOnce(LOW + "meet a b 1;news a c 95 1;", BEST, 0), 0);
        due("by its HOUR", atOnce(LOW + "meet a b 1;" + two + "news a c 2 1;", BEST, 0), 1);
        due("an HOUR less: none for both", atOnce(LOW + "meet a b 1;" + two + "news a c 1 1;", BEST, 0), 0);
        due("from the next TIME on", atOnce(LOW + "meet a b 1;meet b c 2;news a c 23 1;", BEST, 0), 1);
        due("the next day is as good", atOnce(LOW + "meet a b 1;meet b c 2;news a c 47 1;", BEST, 0), 0);
        due("more, but barred", atOnce(LOW + "meet a b 1;" + two + "news a c 23 1;bar b 0;", BEST, 0), 0);
        // three days: 1 less 0.1 to the 24th for b, 1 less 0.1 to the 23rd for a
        String much = LOW + "meet a b 1;" + "meet a c 2 chance 9;".repeat(7) + "meet b c 3 chance 9;".repeat(8)
                + "news a c 71 1;";
        due("more by very little", atOnce(much, BEST, 0), 1);
        due("less by very little", atOnce(much.replace("person a 1;person b 1;", "person b 1;person a 1;")
                .replace("news a", "news b"), BEST, 0), 0);
    }

    private static void anyAtFirst() {
        sentence("(3 ANY at first.)");
        OneHead x = of(LOW + "person d 1;person e 1;person f 1;person g 1;");
        for (int p = 0; p < 7; p++) {
            due("rule(" + p + ", 0, 0)", x.rule(p, NOBODY, 0), ANY);
        }
    }

    /** What is drawn of n behind so many draws ahead of it, by the document's words. */
    private static int drawn(long seed, int ahead, int n) {
        long s = seed;
        for (int i = 0; i <= ahead; i++) {
            s = (1103515245L * s + 12345) % 2147483648L;
        }
        return (int) (s / 65536 % n);
    }

    /** The least seed of which such a number is drawn of n. */
    private static int seedOf(int ahead, int n, int number) {
        int seed = 0;
        while (drawn(seed, ahead, n) != number) {
            seed++;
        }
        return seed;
    }

    private static void draws() {
        sentence("s becomes (1103515245 times s and 12345) modulo 2147483648 each time; what is drawn of n is s over 65536 "
                + "(cut), modulo n.");
        OneHead x = of(PAIR + "meet a b 1 chance 5;".repeat(16) + "news a b 95 1;");
        int[] seeds = {0, 1, 2, 12345, 65535, 65536, 1073741824, 2147483646, 2147483647};
        for (int seed : seeds) {
            int came = NONE;
            int draw = 0;
            for (int t = 0; t < 64 && came == NONE; t++) {
                came = drawn(seed, draw, 10) < 5 ? t : NONE;
                draw += t % 16 == 15 ? 3 : 1;
            }
            x.begin(seed);
            x.go(64);
            due("seed " + seed + ": the TIME at which it came", x.now(0, 2), came);
        }
        // s is 12345 behind the seed 0, then 1406932606, 654583775, 1449466924: of ten 0, 8, 8, 7
        OneHead zero = of(LOW + "meet a b 1 chance 1;meet b c 2 chance 9;news a c 95 1;");
        zero.begin(0);
        zero.go(1);
        due("the first draw of the seed 0 is 0", zero.now(0, 0), 1);
        zero.go(1);
        due("the second is 8", zero.now(0, 0), 2);
    }

    private static void comesAbout() {
        sentence("TIME by TIME: one of ten is drawn: the MEETING comes about, if that is below its number.");
        for (int chance = 1; chance <= 10; chance++) {
            OneHead x = of(PAIR + "meet a b 1 chance " + chance + ";news a b 95 1;");
            x.begin(seedOf(0, 10, chance - 1));
            x.go(1);
            due("chance " + chance + ", drawn " + (chance - 1), x.now(0, 0), 1);
            if (chance < 10) {
                x.begin(seedOf(0, 10, chance));
                x.go(1);
                due("chance " + chance + ", drawn " + chance, x.now(0, 0), 0);
            }
        }
        OneHead x = of(PAIR + "meet a b 1;news a b 95 1;");
        x.begin(seedOf(0, 10, 9));
        x.go(1);
        due("surely, drawn 9", x.now(0, 0), 1);
        // a MEETING that is SURELY is drawn, too
        OneHead second = of(PAIR + "person c 1;meet a c 1;meet a b 2 chance 1;news a b 95 1;");
        second.rule(0, TOLD, 1);
        int seed = seedOf(1, 10, 0);
        while (drawn(seed, 0, 10) == 0) {
            seed++;
            while (drawn(seed, 1, 10) != 0) {
                seed++;
            }
        }
        second.begin(seed);
        second.go(2);
        due("the second draw is for the second TIME", second.now(0, 0), 1);
    }

    private static void tells() {
        sentence("Then the first of the two, then the other, TELLS those he had ahead of the MEETING, by their numbers, "
                + "as by his RULE, if he may (whom a PIECE is for doesn't tell it on).");
        String swap = "person a 1;person b 2;person c 1;";
        OneHead x = of(swap + "meet a b 1;news a c 95 1;news b c 95 1;");
        x.begin(1);
        x.go(1);
        due("the first tells his, so he has room", x.now(0, 0), 1);
        due("the other tells what he had, not what he was told", x.now(1, 0), 0);
        OneHead y = of(swap + "meet b a 1;news a c 95 1;news b c 95 1;");
        y.begin(1);
        y.go(1);
        due("the first finds no room", y.now(1, 0), 1);
        due("the other tells his all the same", y.now(0, 0), 1);
        OneHead full = of(PAIR + "person c 1;meet a b 1;news a c 95 1;news b c 95 1;");
        full.begin(1);
        full.go(4);
        due("two full heads", full.now(0, 1) + full.now(1, 1), 0);
        for (int holds = 1; holds <= 3; holds++) {
            OneHead z = of("person a 3;person b " + holds + ";person c 1;meet a b 1;"
                    + "news a c 95 1;news a c 95 1;news a c 95 1;");
            z.begin(1);
            z.go(1);
            for (int n = 0; n < 3; n++) {
                due("b holds " + holds + ", piece " + n, z.now(n, 0), n < holds ? 1 : 0);
            }
        }
        OneHead kept = of(PAIR + "person c 1;meet a b 1;meet b c 2;news a b 95 1;");
        kept.begin(1);
        kept.go(8);
        due("whom it is for doesn't tell it on", kept.now(0, 0), 1);
        due("it was told once", kept.now(0, 1), 1);
        OneHead barred = of(PAIR + "meet a b 1;news a b 95 1;bar b 0;");
        barred.begin(1);
        barred.go(4);
        due("he may not tell one who is barred", barred.now(0, 0), 0);
        OneHead anyHour = of(PAIR + "meet a b 1;news a b 0 1;");
        anyHour.begin(1);
        anyHour.go(1);
        due("its HOUR is no matter", anyHour.now(0, 2), 0);
    }

    private static void deaths() {
        sentence("Behind the last TIME of each day for each PERSON by numbers that lives one of a thousand is drawn: below "
                + "its number he dies");
        for (int dies : new int[] {1, 2, 100, 499, 500}) {
            OneHead x = of("person a 1 dies " + dies + ";person b 1;meet a b 1;");
            x.begin(seedOf(1, 1000, dies - 1));
            x.go(1);
            due("dies " + dies + ", drawn " + (dies - 1), x.head(0, 1), 0);
            x.begin(seedOf(1, 1000, dies));
            x.go(1);
            due("dies " + dies + ", drawn " + dies, x.head(0, 1), 1);
        }
        OneHead never = of("person a 1 dies 0;person b 1;meet a b 1;");
        never.begin(seedOf(1, 1000, 0));
        never.go(1);
        due("dies 0, drawn 0", never.head(0, 1), 1);
        OneHead two = of("person a 1 dies 500;person b 1;meet a b 1;meet a b 2;");
        two.begin(seedOf(2, 1000, 0));
        two.go(1);
        due("the first TIME of a day", two.head(0, 1), 1);
        two.go(1);
        due("the last TIME of a day", two.head(0, 1), 0);
        OneHead byNumbers = of("person a 1 dies 0;person b 1;person c 1 dies 300;meet a b 1;");
        byNumbers.begin(seedOf(3, 1000, 299));
        byNumbers.go(1);
        due("the third draw of the night is c's", byNumbers.head(2, 1), 0);
        for (int seed = 0; seed < 60; seed++) {
            fourNights(seed);
        }
        OneHead none = of("person a 1 dies 500;person b 1;");
        none.begin(seedOf(0, 1000, 0));
        due("no TIME, no night", none.go(0), 0);
        due("no TIME, no night", none.head(0, 1), 1);
    }

    /** Who is dead is not drawn for; a MEETING is drawn all the same. */
    private static void fourNights(int seed) {
        int[] dies = {500, 250, 0, 400, 100, 500, 1};
        StringBuilder s = new StringBuilder();
        for (int p = 0; p < 7; p++) {
            s.append("person ").append((char) ('a' + p)).append(" 1 dies ").append(dies[p]).append(";");
        }
        OneHead x = of(s + "meet a b 1 chance 5;meet c d 9;");
        x.begin(seed);
        boolean[] dead = new boolean[7];
        int draw = 0;
        for (int day = 0; day < 4; day++) {
            x.go(2);
            draw += 2;
            for (int p = 0; p < 7; p++) {
                if (!dead[p]) {
                    dead[p] = drawn(seed, draw, 1000) < dies[p];
                    draw++;
                }
                due("seed " + seed + ", day " + day + ": head(" + p + ", 1)", x.head(p, 1), dead[p] ? 0 : 1);
            }
        }
    }

    private static void theDead() {
        sentence("what he has is LOST, and nothing is told by him or to him any more (a MEETING is drawn all the same).");
        OneHead x = of("person a 2;person b 1 dies 500;person c 1;meet a b 1;meet b c 2 chance 1;"
                + "news a c 95 1;news a c 95 1;");
        // a tells b the first one; the second draw is not below 1; b dies
        int seed = 0;
        while (drawn(seed, 1, 10) == 0 || drawn(seed, 3, 1000) >= 500) {
            seed++;
        }
        x.begin(seed);
        x.go(1);
        due("b has one", x.head(1, 0), 1);
        x.go(1);
        due("b is dead", x.head(1, 1), 0);
        due("it is LOST", x.now(0, 0), NONE);
        due("he has none", x.head(1, 0), 0);
        due("how often it was told stays", x.now(0, 1), 1);
        due("the other one is with a", x.now(1, 0), 0);
        x.go(6);
        due("nothing is told to him", x.now(1, 0), 0);
        due("nothing is told to him", x.now(1, 1), 0);
        due("what is LOST is LOST", x.now(0, 0), NONE);
        OneHead came = of("person a 1;person b 1 dies 500;meet a b 1;news a b 95 1;");
        came.begin(seedOf(2, 1000, 0));
        came.go(1);
        due("it came", came.now(0, 2), 0);
        due("and is LOST", came.now(0, 0), NONE);
    }

    private static void ruleAnswers() {
        sentence("RULE of a PERSON, of a kind 0 .. 5, with k (a PERSON for TOLD, else of no matter): what kind it was; "
                + "RANGE.");
        OneHead x = of(LOW);
        for (int kind = 0; kind <= 5; kind++) {
            due("rule(0, " + kind + ", 2)", x.rule(0, kind, 2), kind == 0 ? ANY : kind - 1);
        }
        due("kind 6", x.rule(0, 6, 0), RANGE);
        due("kind -1", x.rule(0, -1, 0), RANGE);
        due("person 3", x.rule(3, 0, 0), RANGE);
        due("person -1", x.rule(-1, 0, 0), RANGE);
        due("k 3 for TOLD", x.rule(0, TOLD, 3), RANGE);
        due("k -1 for TOLD", x.rule(0, TOLD, -1), RANGE);
        due("k 2 for TOLD; it was BEST still", x.rule(0, TOLD, 2), BEST);
        for (int kind : new int[] {NOBODY, NEAR, ANY, BACK, BEST}) {
            due("k 3 for another kind", x.rule(1, kind, 3) >= 0 ? 1 : 0, 1);
            due("k -1 for another kind", x.rule(1, kind, -1), kind);
            due("k -2147483648 for another kind", x.rule(1, kind, Integer.MIN_VALUE), kind);
        }
        due("the others' rules", x.rule(2, ANY, 0), ANY);
        due("no people", new OneHead().rule(0, 3, 0), RANGE);
        // a rule that is refused changes nothing
        OneHead y = of(LOW + "meet a b 1;news a b 95 1;");
        y.rule(0, TOLD, 1);
        y.rule(0, TOLD, 7);
        y.rule(0, 9, 2);
        y.begin(1);
        y.go(1);
        due("told b as before", y.now(0, 0), 1);
    }

    private static void beginAnswers() {
        sentence("A RUN by a seed (0 .. 2147483647) begins: 1; RANGE.");
        OneHead x = of(PAIR + "meet a b 1;news a b 95 1;");
        due("begin(-1)", x.begin(-1), RANGE);
        due("no RUN began", x.go(0), STATE);
        due("begin(0)", x.begin(0), 1);
        due("begin(2147483647)", x.begin(2147483647), 1);
        due("begin(-2147483648)", x.begin(Integer.MIN_VALUE), RANGE);
        x.rule(0, NOBODY, 0);
        x.go(3);
        due("begin(-1)", x.begin(-1), RANGE);
        due("the RUN goes on", x.go(0), 3);
        due("begin(5)", x.begin(5), 1);
        due("it begins anew", x.go(0), 0);
        due("RULES stay", x.rule(0, ANY, 0), NOBODY);
        x.go(1);
        x.begin(5);
        due("with whom it is from", x.now(0, 0), 0);
        due("how often it was told", x.now(0, 1), 0);
        due("when it came", x.now(0, 2), NONE);
        OneHead dead = of("person a 1 dies 500;person b 1;meet a b 1;news b a 95 1;");
        dead.begin(seedOf(1, 1000, 0));
        dead.go(1);
        due("a is dead", dead.head(0, 1), 0);
        dead.begin(1);
        due("all live again", dead.head(0, 1), 1);
    }

    private static void goAnswers() {
        sentence("So many TIMES (0 .. 64) of the RUN pass (nights behind the last TIME of a day are in it): which TIME "
                + "comes (TIMES at the end); RANGE: also more than there are still; STATE: no RUN.");
        OneHead x = of(PAIR + "meet a b 1;".repeat(16) + "news a b 95 1;");
        due("no RUN", x.go(0), STATE);
        due("no RUN", x.go(1), STATE);
        due("no RUN", x.go(64), STATE);
        x.begin(1);
        due("go(65)", x.go(65), RANGE);
        due("go(-1)", x.go(-1), RANGE);
        due("go(0)", x.go(0), 0);
        due("nothing passed", x.now(0, 1), 0);
        due("go(64)", x.go(64), 64);
        due("go(1) at the end", x.go(1), RANGE);
        due("go(0) at the end", x.go(0), 64);
        x.begin(1);
        due("go(63)", x.go(63), 63);
        due("go(2), one more than there are", x.go(2), RANGE);
        due("the RUN stands where it stood", x.go(0), 63);
        due("go(1)", x.go(1), 64);
        OneHead few = of(PAIR + "meet a b 1;");
        few.begin(1);
        due("go(5) of four", few.go(5), RANGE);
        due("go(4) of four", few.go(4), 4);
        OneHead none = of(PAIR);
        none.begin(1);
        due("go(0) of none", none.go(0), 0);
        due("go(1) of none", none.go(1), RANGE);
        OneHead night = of("person a 1 dies 500;person b 1;meet a b 1;meet b a 2;");
        night.begin(seedOf(2, 1000, 0));
        night.go(2);
        due("the night is in it", night.head(0, 1), 0);
        OneHead lastNight = of("person a 1 dies 1;person b 1;meet a b 1;");
        int seed = seedOf(10, 1000, 0);
        while (drawn(seed, 1, 1000) == 0 || drawn(seed, 4, 1000) == 0 || drawn(seed, 7, 1000) == 0) {
            seed++;
            while (drawn(seed, 10, 1000) != 0) {
                seed++;
            }
        }
        lastNight.begin(seed);
        lastNight.go(3);
        due("the last day is not over", lastNight.head(0, 1), 1);
        lastNight.go(1);
        due("the last night, too", lastNight.head(0, 1), 0);
        sameByParts();
    }

    private static void sameByParts() {
        String village = "person a 2 dies 30;person b 1 dies 90;person c 2;meet a b 1 chance 7;meet b c 5;"
                + "meet a c 9 chance 4;news a c 95 1;news a b 95 1;news c a 95 1;";
        OneHead whole = of(village);
        OneHead parts = of(village);
        for (int seed = 0; seed < 20; seed++) {
            whole.begin(seed);
            whole.go(12);
            parts.begin(seed);
            parts.go(2);
            parts.go(0);
            parts.go(7);
            parts.go(3);
            for (int n = 0; n < 3; n++) {
                for (int what = 0; what < 3; what++) {
                    due("seed " + seed + ", by parts: now(" + n + ", " + what + ")", parts.now(n, what),
                            whole.now(n, what));
                }
            }
        }
    }

    private static void nowAnswers() {
        sentence("Of the RUN, of a NEWS, what 0: with whom it is (NONE: LOST), 1: how often it was TOLD, 2: the TIME at "
                + "which it came to whom it is for first (NONE); NONE: no RUN; RANGE.");
        OneHead x = of(LOW + "meet a b 1;meet b c 2;news a c 0 1;");
        for (int what = 0; what < 3; what++) {
            due("no RUN", x.now(0, what), NONE);
        }
        due("no RUN, no such news", x.now(1, 0), RANGE);
        due("no RUN, no such what", x.now(0, 3), RANGE);
        x.begin(1);
        due("at first", x.now(0, 0), 0);
        due("not told yet", x.now(0, 1), 0);
        due("it hasn't come yet", x.now(0, 2), NONE);
        x.go(1);
        due("with b", x.now(0, 0), 1);
        due("told once", x.now(0, 1), 1);
        due("it hasn't come yet", x.now(0, 2), NONE);
        x.go(7);
        due("with c", x.now(0, 0), 2);
        due("told twice", x.now(0, 1), 2);
        due("it came at TIME 1", x.now(0, 2), 1);
        due("what 3", x.now(0, 3), RANGE);
        due("what -1", x.now(0, -1), RANGE);
        due("news 1", x.now(1, 0), RANGE);
        due("news -1", x.now(-1, 0), RANGE);
        OneHead most = of(LOW + "meet a b 1;".repeat(16) + "news a c 95 1;");
        most.begin(1);
        most.go(64);
        due("told 64 times", most.now(0, 1), 64);
        OneHead last = of(PAIR + "meet a b 1 chance 1;".repeat(16) + "news a b 95 1;");
        last.rule(0, NOBODY, 0);
        int seed = 0;
        while (drawn(seed, 69, 10) != 0) {
            seed++;
        }
        last.begin(seed);
        last.go(63);
        last.rule(0, ANY, 0);
        last.go(1);
        due("it came at TIME 63", last.now(0, 2), 63);
    }

    private static void headAnswers() {
        sentence("Of the RUN, of a PERSON, what 0: how many PIECES it has, 1: 1 if it lives, else 0; NONE: no RUN; RANGE.");
        OneHead x = of("person a 3;person b 3;person c 1;meet a b 1;news a c 95 1;news a c 95 1;news a c 95 1;");
        due("no RUN", x.head(0, 0), NONE);
        due("no RUN", x.head(0, 1), NONE);
        due("no RUN, no such person", x.head(3, 0), RANGE);
        due("no RUN, no such what", x.head(0, 2), RANGE);
        x.begin(1);
        due("three", x.head(0, 0), 3);
        due("none", x.head(1, 0), 0);
        due("it lives", x.head(2, 1), 1);
        x.go(1);
        due("none any more", x.head(0, 0), 0);
        due("three now", x.head(1, 0), 3);
        due("what 2", x.head(0, 2), RANGE);
        due("what -1", x.head(0, -1), RANGE);
        due("person 3", x.head(3, 0), RANGE);
        due("person -1", x.head(-1, 1), RANGE);
        OneHead dead = of("person a 1 dies 500;person b 1;meet a b 1;");
        dead.begin(seedOf(1, 1000, 0));
        dead.go(1);
        due("it is dead", dead.head(0, 1), 0);
    }

    private static void keepAnswers() {
        sentence("A SLOT (0 .. 2) keeps the RUN: which TIME comes; RANGE; STATE: no RUN.");
        OneHead x = of(LOW + "meet a b 1;meet b c 2;news a c 95 1;");
        for (int slot = 0; slot < 3; slot++) {
            due("no RUN, keep(" + slot + ")", x.keep(slot), STATE);
        }
        due("no RUN, keep(3)", x.keep(3), RANGE);
        x.begin(1);
        due("keep(0)", x.keep(0), 0);
        x.go(1);
        due("keep(1)", x.keep(1), 1);
        x.go(7);
        due("keep(2) at the end", x.keep(2), 8);
        due("keep(3)", x.keep(3), RANGE);
        due("keep(-1)", x.keep(-1), RANGE);
        due("take(0)", x.take(0), 0);
        due("what slot 0 keeps", x.now(0, 0), 0);
        due("take(1)", x.take(1), 1);
        due("what slot 1 keeps", x.now(0, 0), 1);
        due("take(2)", x.take(2), 8);
        due("what slot 2 keeps", x.now(0, 0), 2);
        due("keep(0) anew", x.keep(0), 8);
        due("take(0) of it", x.take(0), 8);
        x.begin(1);
        due("a RUN that begins leaves them", x.take(1), 1);
        x.keep(1);
        x.go(4);
        due("a RUN that goes on leaves them", x.take(1), 1);
        due("what slot 1 keeps", x.now(0, 0), 1);
    }

    private static void takeAnswers() {
        sentence("The RUN becomes as a SLOT keeps it: which TIME comes; RANGE; STATE: it is empty.");
        String village = "person a 2 dies 60;person b 2 dies 300;person c 2;meet a b 1 chance 6;meet b c 5;"
                + "meet c a 9 chance 5;news a c 95 1;news a b 95 1;news c a 95 1;";
        OneHead x = of(village);
        for (int slot = 0; slot < 3; slot++) {
            due("empty, take(" + slot + ")", x.take(slot), STATE);
        }
        due("take(3)", x.take(3), RANGE);
        due("take(-1)", x.take(-1), RANGE);
        x.begin(1);
        x.go(2);
        x.keep(1);
        due("empty, take(0)", x.take(0), STATE);
        due("empty, take(2)", x.take(2), STATE);
        due("the RUN stands where it stood", x.go(0), 2);
        for (int seed = 0; seed < 20; seed++) {
            OneHead kept = of(village);
            kept.begin(seed);
            kept.go(5);
            kept.keep(2);
            String ahead = told(kept);
            kept.go(7);
            String behind = told(kept);
            due("take(2)", kept.take(2), 5);
            due("as it was kept", told(kept).equals(ahead) ? 1 : 0, 1);
            kept.go(7);
            due("and goes on alike", told(kept).equals(behind) ? 1 : 0, 1);
        }
        // who told it him is kept, too; RULES are not the RUN's
        OneHead y = of(LOW + "person d 1;meet a b 1;meet b c 2;meet a b 3;news a d 95 1;");
        y.rule(1, NOBODY, 0);
        y.begin(1);
        y.go(1);
        y.keep(0);
        y.begin(2);
        y.rule(1, BACK, 0);
        y.take(0);
        due("the rule is as it was told last", y.rule(1, BACK, 0), BACK);
        y.go(2);
        due("back to a", y.now(0, 0), 0);
    }

    private static String told(OneHead x) {
        StringBuilder s = new StringBuilder();
        for (int what = 0; what < 3; what++) {
            for (int n = 0; n < 3; n++) {
                s.append(x.now(n, what)).append(' ').append(x.head(n, what % 2)).append(' ');
            }
        }
        return s.toString();
    }
}
