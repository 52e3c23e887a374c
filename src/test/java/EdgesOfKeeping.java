import java.math.BigInteger;

/** Rings, where a piece is now, fights: Terms IV, promises 17 to 22. */
final class EdgesOfKeeping extends Sentences {
    private static final String MORTALS = "person a 1 dies 100;person b 1;person c 1 dies 1;person d 1 dies 500;";
    private static final String LOW = "person a 1;person b 1;person c 1;";
    /** TIMES of a day: 0 a-b at 8, 1 b-c at 8, 2 b-c at 20. */
    private static final String LINE = LOW + "meet a b 8;meet b c 20;meet b c 8;";
    private static final String PAIR = "person a 1;person b 1;";

    private EdgesOfKeeping() {
    }

    static void all() {
        ringRows();
        ringDays();
        ringCut();
        ringAnswers();
        bestRing();
        bestRingAnswers();
        whereNow();
        whereCut();
        whereAnswers();
        ask();
        askAnswers();
        fights();
        beliefs();
        fightAnswers();
        believeAnswers();
    }

    private static void ringRows() {
        sentence("a row of PEOPLE (likewise, 1 at least, all unlike)");
        OneHead x = of(MORTALS);
        due("none", ring(x, "", 1), NONE);
        due("one", ring(x, "0", 1), 900000);
        due("all", ring(x, "0123", 4), 449550);
        due("all in another row", ring(x, "3210", 4), 449550);
        due("two alike", ring(x, "00", 1), NONE);
        due("two alike, not beside each other", ring(x, "010", 1), NONE);
        due("the last one like another", ring(x, "01231", 0), NONE);
        due("byte 48 and 4", ring(x, "4", 1), NONE);
        due("byte 47", ring(x, "/", 1), NONE);
        due("byte 0", ring(x, "" + (char) 0, 1), NONE);
        due("byte 255", ring(x, "" + (char) 255, 1), NONE);
        due("a blank", ring(x, "0 1", 1), NONE);
        due("no people", ring(new OneHead(), "0", 1), NONE);
        OneHead seven = of(MORTALS + "person e 1;person f 1;person g 1 dies 250;");
        due("the seventh", ring(seven, "6", 1), 750000);
        due("an eighth", ring(seven, "7", 1), NONE);
        due("all seven", ring(seven, "0123456", 7), 337162);
    }

    private static void ringDays() {
        sentence("day by day the next one has the thing, the first one on day 0: the chance that nobody has died on a "
                + "day on which it was with him, in d days (each day by itself)");
        OneHead x = of(MORTALS);
        due("no day", ring(x, "3", 0), 1000000);
        due("day 0", ring(x, "01", 1), 900000);
        due("day 0 with b", ring(x, "10", 1), 1000000);
        due("two days", ring(x, "10", 2), 900000);
        due("day 2 with the first again", ring(x, "01", 3), 810000);
        due("day 2 with b again", ring(x, "10", 3), 900000);
        due("one alone has it each day", ring(x, "0", 3), 729000);
        due("three: the first one again on day 3", ring(x, "031", 4), 405000);
        due("three: not yet on day 2", ring(x, "031", 3), 450000);
    }

    private static void ringCut() {
        sentence("in millionths, cut once, of the whole product.");
        OneHead x = of(MORTALS);
        due("0.999 to the 2nd", ring(x, "2", 2), 998001);
        due("0.997002999 is cut", ring(x, "2", 3), 997002);
        due("0.996005996001; cut each day it would be 996004", ring(x, "2", 4), 996005);
        due("0.999 to the 400th", ring(x, "2", 400), 670185);
        due("0.5 to the 19th", ring(x, "3", 19), 1);
        due("0.5 to the 20th", ring(x, "3", 20), 0);
        due("0.5 to the 19th, every other day", ring(x, "13", 39), 1);
        due("0.5 to the 20th, every other day", ring(x, "13", 40), 0);
        due("0.5 to the 400th", ring(x, "3", 400), 0);
        due("0.5 to the 6th, whole millionths", ring(x, "3", 6), 15625);
        due("0.9 to the 6th, whole millionths", ring(x, "0", 6), 531441);
        due("a whole number less some 0.00000001", ring(of("person a 1 dies 5;person b 1 dies 6;person c 1 dies 8;"
                + "person d 1 dies 13;person e 1 dies 16;person f 1 dies 30;person g 1 dies 37;"), "0123456", 138), 104286);
        due("a whole number less some 0.00000001", ring(of("person a 1 dies 2;person b 1 dies 3;person c 1 dies 5;"
                + "person d 1 dies 12;person e 1 dies 16;person f 1 dies 18;person g 1 dies 31;"), "0123456", 264), 37267);
        for (int dies : new int[] {1, 7, 50, 333, 450, 499, 500}) {
            OneHead one = of("person a 1 dies " + dies + ";");
            BigInteger product = BigInteger.valueOf(1000000);
            BigInteger whole = BigInteger.ONE;
            for (int d = 0; d <= 100; d++) {
                due("dies " + dies + ", " + d + " days", ring(one, "0", d), product.divide(whole).intValueExact());
                product = product.multiply(BigInteger.valueOf(1000 - dies));
                whole = whole.multiply(BigInteger.valueOf(1000));
            }
        }
    }

    private static void ringAnswers() {
        sentence("A RING for d days (0 .. 400): millionths; NONE: it is no such row; RANGE: d.");
        OneHead x = of(MORTALS);
        due("d 0", ring(x, "0", 0), 1000000);
        due("d 400", ring(x, "1", 400), 1000000);
        due("d 401", ring(x, "1", 401), RANGE);
        due("d -1", ring(x, "1", -1), RANGE);
        due("no such row", ring(x, "11", 0), NONE);
        due("no such row, no such d", ring(x, "11", 401), RANGE);
    }

    private static void bestRing() {
        sentence("the set of n PEOPLE (in any row, as a day for each is as good as another) whose product of (1000 less "
                + "of how many they die) is greatest; the least bits.");
        OneHead x = of(MORTALS);
        due("bestRing(1)", x.bestRing(1), 2);
        due("bestRing(2)", x.bestRing(2), 6);
        due("bestRing(3)", x.bestRing(3), 7);
        due("bestRing(4)", x.bestRing(4), 15);
        OneHead alike = of("person a 1 dies 5;person b 1 dies 5;person c 1 dies 4;person d 1 dies 5;"
                + "person e 1;person f 1;person g 1;");
        int[] sets = {16, 48, 112, 116, 117, 119, 127};
        for (int n = 1; n <= 7; n++) {
            due("bestRing(" + n + ")", alike.bestRing(n), sets[n - 1]);
        }
        OneHead near = of("person a 1 dies 500;person b 1 dies 499;");
        due("by one of a thousand", near.bestRing(1), 2);
        due("nobody dies", of(LOW).bestRing(1), 1);
        due("nobody dies", of(LOW).bestRing(2), 3);
    }

    private static void bestRingAnswers() {
        sentence("BEST RING of n PEOPLE (1 .. all), as bits; RANGE.");
        OneHead x = of(MORTALS);
        due("n 1", x.bestRing(1), 2);
        due("all", x.bestRing(4), 15);
        due("n 0", x.bestRing(0), RANGE);
        due("one more", x.bestRing(5), RANGE);
        due("n -1", x.bestRing(-1), RANGE);
        due("n 8", x.bestRing(8), RANGE);
        due("no people", new OneHead().bestRing(1), RANGE);
        due("no people", new OneHead().bestRing(0), RANGE);
    }

    private static void whereNow() {
        sentence("a PIECE was with a PERSON ahead of a TIME; at each MEETING from then on that comes about who has it "
                + "TELLS it in u of ten (0 .. 10) if he may");
        OneHead x = of(LINE + "news a c 9 1;");
        due("u 0", x.where(0, 0, 0, 0, 12, 0), 1000000);
        due("u 10", x.where(0, 0, 0, 10, 1, 1), 1000000);
        due("u 10, told away", x.where(0, 0, 0, 10, 1, 0), 0);
        for (int u = 0; u <= 10; u++) {
            due("u " + u, x.where(0, 0, 0, u, 1, 1), u * 100000);
            due("u " + u + ", kept", x.where(0, 0, 0, u, 1, 0), 1000000 - u * 100000);
        }
        due("from that TIME on, with it", x.where(0, 1, 1, 10, 2, 2), 1000000);
        due("not one that is over", x.where(0, 0, 1, 10, 3, 0), 1000000);
        due("who has heard it tells it on", x.where(0, 0, 0, 10, 2, 2), 1000000);
        due("and back", x.where(0, 0, 0, 10, 3, 1), 1000000);
        OneHead byChance = of(PAIR + "meet a b 8 chance 3;news a b 9 1;");
        due("0.3 * 0.5", byChance.where(0, 0, 0, 5, 1, 1), 150000);
        due("0.3 * 1.0", byChance.where(0, 0, 0, 10, 1, 1), 300000);
        OneHead barred = of(LINE + "news a c 9 1;bar b 0;");
        due("he may not tell one who is barred", barred.where(0, 0, 0, 10, 12, 0), 1000000);
        due("one who is barred tells it", barred.where(0, 1, 0, 10, 1, 0), 1000000);
        OneHead turned = of(LOW + "meet b a 8;news a c 9 1;bar b 0;");
        due("he may not tell one who is barred, told first", turned.where(0, 0, 0, 10, 1, 0), 1000000);
        OneHead seven = of(LOW + "person d 1;person e 1;person f 1;person g 1;meet f g 1;meet g a 2;news a c 9 1;");
        due("the seventh has it", seven.where(0, 5, 0, 6, 1, 6), 600000);
        due("the sixth has it", seven.where(0, 5, 0, 6, 1, 5), 400000);
        due("the first has it from the seventh", seven.where(0, 5, 0, 6, 2, 0), 360000);
        due("the seventh has it still", seven.where(0, 5, 0, 6, 2, 6), 240000);
        OneHead full = of(LINE + "news a c 9 1;news b a 9 1;");
        due("full heads are no matter", full.where(0, 0, 0, 10, 1, 1), 1000000);
    }

    private static void whereCut() {
        sentence("the chance that it is with a PERSON ahead of another TIME, in millionths, cut once.");
        OneHead x = of(PAIR + "meet a b 1 chance 3;meet a b 2 chance 3;news a b 9 1;");
        due("ahead of TIME 0", x.where(0, 0, 0, 7, 0, 0), 1000000);
        due("ahead of TIME 1", x.where(0, 0, 0, 7, 1, 0), 790000);
        due("ahead of TIME 2", x.where(0, 0, 0, 7, 2, 0), 668200);
        // (1 + 0.58 to the 6th) / 2 = 0.519034346272; cut at each TIME it would be 519033
        due("ahead of TIME 6", x.where(0, 0, 0, 7, 6, 0), 519034);
        due("the other one", x.where(0, 0, 0, 7, 6, 1), 480965);
        OneHead tiny = of(PAIR + "meet a b 1 chance 9;".repeat(16) + "news a b 9 1;");
        // (1 + 0.1 to the 64th) / 2 and (1 less 0.1 to the 64th) / 2
        due("a half and very little", tiny.where(0, 1, 0, 5, 64, 1), 500000);
        due("a half less very little", tiny.where(0, 1, 0, 5, 64, 0), 499999);
        OneHead even = of(PAIR + "meet a b 1;".repeat(16) + "news a b 9 1;");
        due("a half", even.where(0, 1, 0, 5, 64, 0), 500000);
    }

    private static void whereAnswers() {
        sentence("WHERE NOW: of a NEWS from a PERSON, ahead of TIME t, u of ten, ahead of TIME z (t .. TIMES): the "
                + "chance of a PERSON; RANGE.");
        OneHead x = of(LINE + "news a c 9 1;");
        due("z is t", x.where(0, 0, 5, 10, 5, 0), 1000000);
        due("z is t, another one", x.where(0, 0, 5, 10, 5, 1), 0);
        due("z below t", x.where(0, 0, 5, 10, 4, 0), RANGE);
        due("z is TIMES", x.where(0, 0, 12, 10, 12, 0), 1000000);
        due("z is TIMES, from the last", x.where(0, 1, 11, 10, 12, 2), 1000000);
        due("z 13", x.where(0, 0, 5, 10, 13, 0), RANGE);
        due("t and z 13", x.where(0, 0, 13, 10, 13, 0), RANGE);
        due("t -1", x.where(0, 0, -1, 10, 5, 0), RANGE);
        due("t and z -1", x.where(0, 0, -1, 10, -1, 0), RANGE);
        due("u 10", x.where(0, 0, 0, 10, 1, 0), 0);
        due("u 11", x.where(0, 0, 0, 11, 1, 0), RANGE);
        due("u 0", x.where(0, 0, 0, 0, 1, 0), 1000000);
        due("u -1", x.where(0, 0, 0, -1, 1, 0), RANGE);
        due("person 3", x.where(0, 0, 0, 5, 1, 3), RANGE);
        due("person -1", x.where(0, 0, 0, 5, 1, -1), RANGE);
        due("from 3", x.where(0, 3, 0, 5, 1, 0), RANGE);
        due("from -1", x.where(0, -1, 0, 5, 1, 0), RANGE);
        due("news 1", x.where(1, 0, 0, 5, 1, 0), RANGE);
        due("news -1", x.where(-1, 0, 0, 5, 1, 0), RANGE);
        due("no times", of(PAIR + "news a b 9 1;").where(0, 1, 0, 5, 0, 1), 1000000);
    }

    private static void ask() {
        sentence("ASK: who has the greatest of these exact chances; the least of alike ones.");
        OneHead x = of(LINE + "news a c 9 1;");
        due("0.4 and 0.6", x.ask(0, 0, 0, 6, 1), 1);
        due("0.6 and 0.4", x.ask(0, 0, 0, 4, 1), 0);
        due("two alike", x.ask(0, 0, 0, 5, 1), 0);
        due("two alike, from the other", x.ask(0, 1, 0, 5, 1), 0);
        due("b and c alike", x.ask(0, 2, 1, 5, 2), 1);
        due("0.5, 0.25, 0.25 from a", x.ask(0, 0, 0, 5, 2), 0);
        due("surely the last", x.ask(0, 0, 0, 10, 2), 2);
        OneHead tiny = of(PAIR + "meet a b 1 chance 9;".repeat(16) + "news a b 9 1;");
        due("more by 0.1 to the 64th", tiny.ask(0, 1, 0, 5, 64), 1);
        due("more by 0.1 to the 64th", tiny.ask(0, 0, 0, 5, 64), 0);
        OneHead tiniest = of(PAIR + "meet a b 1 chance 7;".repeat(16) + "news a b 9 1;");
        due("more by 0.02 to the 64th", tiniest.ask(0, 1, 0, 7, 64), 1);
        due("more by 0.02 to the 63rd", tiniest.ask(0, 1, 0, 7, 63), 1);
        OneHead lastTwo = of(LOW + "person d 1;person e 1;person f 1;person g 1;" + "meet f g 1 chance 7;".repeat(16)
                + "news a b 9 1;");
        due("more by 0.02 to the 64th, the last", lastTwo.ask(0, 6, 0, 7, 64), 6);
        due("more by 0.02 to the 64th, the last but one", lastTwo.ask(0, 5, 0, 7, 64), 5);
        due("a half and very little", lastTwo.where(0, 6, 0, 7, 64, 6), 500000);
        due("a half less very little", lastTwo.where(0, 6, 0, 7, 64, 5), 499999);
        OneHead even = of(PAIR + "meet a b 1;".repeat(16) + "news a b 9 1;");
        due("alike behind 64 times", even.ask(0, 1, 0, 5, 64), 0);
        // at the last time a and b come to have the same, with 124 figures; c has a little less
        for (String mixed : new String[] {"a1 b1 a3 b1 a3 b3 b3 a1 b1 a1 b3 a1 b1 b1 a1",
            "a3 b1 a1 b1 a1 b1 a1 a1 b3 b3 a3 b1 a1 b3 a3", "b1 a1 b1 a3 b1 a1 a3 b1 a1 b1 a1 b3 a3 b1 b1",
            "b3 a1 b1 a3 b1 a1 b1 b3 b1 a1 b1 a1 b1 a1 b3"}) {
            StringBuilder s = new StringBuilder(LOW);
            for (String one : mixed.split(" ")) {
                s.append("meet ").append(one.charAt(0)).append(" c 1 chance ").append(one.charAt(1)).append(";");
            }
            due("alike with all their figures", of(s + "meet a b 2;news a b 9 1;").ask(0, 0, 0, 5, 64), 0);
        }
        OneHead nearly = of(LOW + "meet a b 1;meet a c 2 chance 1;" + "meet b c 3 chance 9;".repeat(8) + "news a c 9 1;");
        // behind the first day a has 0.475, b 0.2625 and little, c the rest of it
        due("three of them", nearly.ask(0, 0, 0, 5, 10), 0);
        due("b and c, a barred from it",
                of(LOW + "meet b c 3 chance 9;".repeat(16) + "news b c 9 1;bar a 0;").ask(0, 2, 0, 5, 63), 2);
    }

    private static void askAnswers() {
        sentence("ASK likewise: the PERSON; RANGE.");
        OneHead x = of(LINE + "news a c 9 1;");
        due("z is t", x.ask(0, 2, 5, 10, 5), 2);
        due("z below t", x.ask(0, 0, 5, 10, 4), RANGE);
        due("z is TIMES", x.ask(0, 2, 12, 10, 12), 2);
        due("z 13", x.ask(0, 0, 5, 10, 13), RANGE);
        due("t -1", x.ask(0, 0, -1, 10, 5), RANGE);
        due("u 10", x.ask(0, 0, 0, 10, 1), 1);
        due("u 11", x.ask(0, 0, 0, 11, 1), RANGE);
        due("u 0", x.ask(0, 0, 0, 0, 12), 0);
        due("u -1", x.ask(0, 0, 0, -1, 1), RANGE);
        due("from 3", x.ask(0, 3, 0, 5, 1), RANGE);
        due("from -1", x.ask(0, -1, 0, 5, 1), RANGE);
        due("news 1", x.ask(1, 0, 0, 5, 1), RANGE);
        due("news -1", x.ask(-1, 0, 0, 5, 1), RANGE);
    }

    private static void fights() {
        sentence("a PIECE and a false one sent after it, both alone, each with TIMES of TELLINGS told on THE TAPE "
                + "{N N \";\"} as for JUDGED (NEWS 0 the true one, 1 the false one, at first with the same PERSON, who "
                + "holds both; nobody is barred, all hold as many as there are)");
        OneHead x = of(LINE + "news a c 9 1;news b a 9 1;news c a 9 1;bar b 0;bar c 1;");
        due("none", fight(x, "", 0), 0);
        due("both to b, who is barred and holds one", fight(x, "0 0;0 1;", 0), 2);
        due("both on to c", fight(x, "0 0;0 1;1 0;2 1;", 0), 4);
        due("both with b at first", fight(x, "0 0;1 1;", 1), 2);
        due("both with c at first", fight(x, "1 0;1 1;3 0;3 1;", 2), 4);
        due("of the two nobody has it", fight(x, "1 0;", 0), -1);
        due("of the two nobody has the false one", fight(x, "0 0;1 1;", 0), -2);
        due("a third one", fight(x, "0 0;0 2;", 0), -2);
        due("a fourth one", fight(x, "0 3;", 0), -1);
        due("a fifth one is no row", fight(x, "0 4;", 0), NO_ROW);
        due("the last TIME", fight(x, "11 0;", 1), 1);
        for (int p = 0; p < 3; p++) {
            due("no such TIME", fight(x, "12 0;", p), -1);
        }
        due("no TIME at all", fight(of(PAIR), "0 0;", 0), -1);
        due("TIME 64 is no row", fight(x, "64 0;", 1), NO_ROW);
        due("a TIME ahead of the one before", fight(x, "1 0;0 1;", 1), -2);
        due("the same TIME", fight(x, "1 0;1 0;1 0;", 1), 3);
        due("no news at all", fight(of(LINE), "0 0;0 1;", 0), 2);
        due("by chance", fight(of(PAIR + "meet a b 1 chance 1;"), "0 0;0 1;", 0), 2);
    }

    private static void dueBelief(OneHead x, String row, int person, int trueOne, int falseOne) {
        due("fight(" + person + ") of \"" + row + "\"", fight(x, row, person), row.length() / 4);
        due("believe(0) of \"" + row + "\"", x.believe(0), trueOne);
        due("believe(1) of \"" + row + "\"", x.believe(1), falseOne);
    }

    private static void beliefs() {
        sentence("whoever had one of them believes the one that came to him last (the first PERSON the true one, till "
                + "one comes to him): PEOPLE who believe the true one, the false one, as bits.");
        OneHead x = of(LINE);
        dueBelief(x, "", 0, 1, 0);
        dueBelief(x, "", 2, 4, 0);
        dueBelief(x, "0 0;", 0, 3, 0);
        dueBelief(x, "0 1;", 0, 1, 2);
        dueBelief(x, "0 0;0 1;", 0, 1, 2);
        dueBelief(x, "0 1;0 0;", 0, 3, 0);
        dueBelief(x, "0 0;0 1;1 0;", 0, 5, 2);
        dueBelief(x, "0 0;1 0;3 1;4 1;", 0, 1, 6);
        dueBelief(x, "0 1;0 1;", 0, 0, 3);
        dueBelief(x, "0 0;0 0;", 0, 3, 0);
        dueBelief(x, "0 1;0 1;0 0;0 0;", 0, 3, 0);
        dueBelief(x, "0 0;1 0;", 0, 7, 0);
        OneHead seven = of(LOW + "person d 1;person e 1;person f 1;person g 1;meet a g 1;");
        dueBelief(seven, "0 1;", 0, 1, 64);
        dueBelief(seven, "0 0;", 6, 65, 0);
    }

    private static void fightAnswers() {
        sentence("FIGHT from a PERSON: how many TELLINGS; NONE less the number of the first that can't be, as for "
                + "judge() (what believe() tells stays then); FULL (-1000): it is no such row; RANGE (-2000): no such "
                + "PERSON.");
        OneHead x = of(LINE);
        due("none", fight(x, "", 0), 0);
        due("225", fight(x, "0 0;".repeat(225), 0), 225);
        due("two", fight(x, "0 0;0 1;", 0), 2);
        due("believe(0)", x.believe(0), 1);
        due("believe(1)", x.believe(1), 2);
        due("number 0", fight(x, "1 0;", 0), -1);
        due("believe(0) stays", x.believe(0), 1);
        due("number 1", fight(x, "0 0;1 1;", 0), -2);
        due("believe(1) stays", x.believe(1), 2);
        due("number 224", fight(x, "0 0;".repeat(224) + "0 2;", 0), -225);
        due("believe(0) stays", x.believe(0), 1);
        for (String none : new String[] {";", "0", "0;", "0 0", "0 0;0", "a 0;", "0 0 0;", "0000 0;", "64 0;", "0 4;"}) {
            due("fight(0) of \"" + none + "\"", fight(x, none, 0), NO_ROW);
        }
        due("believe(0) stays", x.believe(0), 1);
        due("person 2", fight(x, "1 0;", 2), 1);
        due("person 3", fight(x, "1 0;", 3), NO_PERSON);
        due("person -1", fight(x, "1 0;", -1), NO_PERSON);
        due("no such person, no such row", fight(x, "x", 3), NO_PERSON);
        due("believe(0) of the latest", x.believe(0), 6);
        due("no people", fight(new OneHead(), "", 0), NO_PERSON);
    }

    private static void believeAnswers() {
        sentence("By the latest fight() in which all could be, who believes the true one (0), the false one (1), as "
                + "bits; NONE: there was none, or another.");
        OneHead x = of(LINE);
        due("there was none", x.believe(0), NONE);
        due("there was none", x.believe(1), NONE);
        fight(x, "1 0;", 0);
        due("there was none in which all could be", x.believe(0), NONE);
        fight(x, "x", 0);
        fight(x, "", 3);
        due("there was none in which all could be", x.believe(1), NONE);
        judge(x, "");
        due("a judge() is no fight()", x.believe(0), NONE);
        fight(x, "0 1;", 0);
        due("believe(0)", x.believe(0), 1);
        due("believe(1)", x.believe(1), 2);
        for (int which : new int[] {-1, 2, Integer.MAX_VALUE, Integer.MIN_VALUE}) {
            due("believe(" + which + ")", x.believe(which), NONE);
        }
        judge(x, "");
        due("it stays behind a judge()", x.believe(1), 2);
        fight(x, "", 2);
        due("the latest", x.believe(0), 4);
        due("the latest", x.believe(1), 0);
    }
}
