/** Tellings judged: Terms II, promises 9 and 10. */
final class EdgesOfTellings extends Sentences {
    /** TIMES of a day: 0 a-b at 8, 1 b-c at 8, 2 b-c at 20. */
    private static final String LINE = "person a 1;person b 1;person c 1;meet a b 8;meet b c 20;meet b c 8;";

    private EdgesOfTellings() {
    }

    static void all() {
        atFirst();
        whatCanBe();
        inTime();
        rows();
        inTheirRow();
        firstWrong();
        behindThoseAhead();
        judgeAnswers();
        judgedAnswers();
    }

    private static void atFirst() {
        sentence("Each PIECE of NEWS is with one PERSON at a time, at first with whom it is from.");
        OneHead x = of(LINE + "news a c 9 1;news c a 9 1;");
        due("an empty row", judge(x, ""), 0);
        due("judged(0, 0)", x.judged(0, 0), 0);
        due("judged(1, 0)", x.judged(1, 0), 2);
        due("a tells it", judge(x, "0 0;"), 1);
        due("judged(0, 0)", x.judged(0, 0), 1);
        due("whoever told it has forgotten it", judge(x, "0 0;1 0;0 0;"), -2);
        due("b tells it back", judge(x, "0 0;0 0;"), 2);
        due("judged(0, 0)", x.judged(0, 0), 0);
    }

    private static void whatCanBe() {
        sentence("At a TIME one of the two may TELL the other a PIECE that it has, if the other isn't barred from it "
                + "and holds fewer than it can: then it is with the other.");
        OneHead x = of(LINE + "news a c 9 1;");
        due("of the two nobody has it", judge(x, "1 0;"), -1);
        due("the second of the two has it", judge(x, "0 0;3 0;"), 2);
        due("judged(0, 0)", x.judged(0, 0), 0);
        OneHead barred = of(LINE + "news a c 9 1;news c a 9 1;bar b 0;");
        due("the other is barred from it", judge(barred, "0 0;"), -1);
        due("the other isn't barred from this one", judge(barred, "1 1;"), 1);
        for (int holds = 1; holds <= 3; holds++) {
            OneHead y = of("person a 3;person b 1;person c " + holds + ";meet a c 1;meet b c 1;"
                    + "news a c 9 1;news a c 9 1;news a c 9 1;news b c 9 1;");
            String row = "0 0;0 1;0 2;".substring(0, 4 * holds);
            due("as many as c holds, " + holds, judge(y, row), holds);
            due("one more", judge(y, row + "1 3;"), -1 - holds);
            due("one more when one is told away", judge(y, row + "0 0;1 3;"), holds + 2);
        }
        OneHead own = of("person a 1;person b 1;meet a b 1;news a b 9 1;news b a 9 1;");
        due("his own piece fills a head, too", judge(own, "0 0;"), -1);
        due("nor the other way", judge(own, "0 1;"), -1);
    }

    private static void inTime() {
        sentence("A PIECE is IN TIME, if behind all TIMES of HOURS up to its own it is with whom it is for.");
        due("the same hour", timely("20", "0 0;2 0;"), 1);
        due("an hour too late", timely("19", "0 0;2 0;"), 0);
        due("an hour left", timely("21", "0 0;2 0;"), 1);
        due("told on at its hour", timely("20", "0 0;1 0;2 0;"), 0);
        due("told on behind its hour", timely("19", "0 0;1 0;2 0;"), 1);
        due("two times of one hour", timely("8", "0 0;1 0;"), 1);
        due("the next day's times", timely("44", "0 0;5 0;"), 1);
        due("the next day's times, too late", timely("43", "0 0;5 0;"), 0);
        due("the last hour", timely("95", "0 0;11 0;"), 1);
        due("there again behind its hour", timely("19", "0 0;1 0;2 0;4 0;"), 1);
        due("away at its hour, there again behind it", timely("20", "0 0;1 0;2 0;4 0;"), 0);
        due("never there", timely("95", "0 0;"), 0);
        due("not told at all", timely("95", ""), 0);
    }

    private static int timely(String hour, String row) {
        OneHead x = of(LINE + "news a c " + hour + " 1;");
        judge(x, row);
        return x.judged(0, 1);
    }

    private static void rows() {
        sentence("THE TAPE is a row of TELLINGS {N N \";\"}: a TIME 0 .. 63 and a number of NEWS 0 .. 3");
        OneHead most = of("person a 3;person b 3;" + "meet a b 1;".repeat(16)
                + "news a b 9 1;news a b 9 1;news b a 9 1;news b a 9 1;");
        due("the last time, the last news", judge(most, "63 3;"), 1);
        due("judged(3, 0)", most.judged(3, 0), 0);
        due("TIME 64", judge(most, "64 0;"), NO_ROW);
        due("TIME 999", judge(most, "999 0;"), NO_ROW);
        due("NEWS 4", judge(most, "0 4;"), NO_ROW);
        due("NEWS 999", judge(most, "0 999;"), NO_ROW);
        due("no telling", judge(most, ""), 0);
        due("blanks", judge(most, " \n "), 0);
        OneHead x = of(LINE + "news a c 9 1;");
        due("a TIME that may be told, but isn't there", judge(x, "63 0;"), -1);
        due("a NEWS that may be told, but isn't there", judge(x, "0 3;"), -1);
        due("no such row, though the first can't be", judge(x, "1 0;64 0;"), NO_ROW);
    }

    private static void inTheirRow() {
        sentence("each is done, in their row: who of the two has it TELLS it the other.");
        OneHead x = of("person a 1;person b 2;person c 1;meet a b 8;meet b c 9;news a c 95 1;news b a 95 1;");
        due("a tells, then b", judge(x, "0 0;0 1;"), 2);
        due("b can't ahead of a", judge(x, "0 1;0 0;"), -1);
        due("there, back and there again at one TIME", judge(x, "0 0;0 0;0 0;1 0;"), 4);
        due("judged(0, 0)", x.judged(0, 0), 2);
        due("of the two nobody has it any more", judge(x, "0 0;1 0;2 0;"), -3);
    }

    private static void firstWrong() {
        sentence("RIGHT, if there is each TIME, not ahead of the one before, and each NEWS, and each can be; "
                + "else the first that can't be (by its number from 0)");
        OneHead x = of(LINE + "news a c 95 1;news c a 95 1;");
        due("the last TIME", judge(x, "0 0;11 0;"), -2);
        due("the last TIME, c has told the other one", judge(of(LINE + "news a c 95 1;"), "0 0;11 0;"), 2);
        due("TIMES", judge(x, "12 0;"), -1);
        due("TIMES, with room in each head", judge(of("person a 3;person b 3;meet a b 1;news a b 9 1;"), "4 0;"), -1);
        due("TIMES, no meetings", judge(of("person a 3;person b 3;news a b 9 1;"), "0 0;"), -1);
        due("the same TIME", judge(x, "0 0;0 0;0 0;"), 3);
        due("a TIME ahead of the one before", judge(x, "3 0;2 1;"), -2);
        due("of the second NEWS", judge(x, "1 1;"), 1);
        due("of a third NEWS", judge(x, "1 1;1 2;"), -2);
        due("two that can't be", judge(x, "0 0;2 1;0 1;"), -2);
        due("one that could be behind one that can't", judge(x, "1 0;1 1;"), -1);
    }

    private static void behindThoseAhead() {
        sentence("where all PIECES are behind those ahead of that, and which of them are IN TIME by these.");
        OneHead x = of(LINE + "news a b 8 1;news c a 95 1;");
        due("the second can't be", judge(x, "0 0;1 1;3 0;"), -2);
        due("judged(0, 0)", x.judged(0, 0), 1);
        due("judged(0, 1)", x.judged(0, 1), 1);
        due("judged(1, 0)", x.judged(1, 0), 2);
        due("judged(1, 1)", x.judged(1, 1), 0);
        due("the first can't be", judge(x, "1 0;0 0;"), -1);
        due("judged(0, 0)", x.judged(0, 0), 0);
        due("judged(0, 1)", x.judged(0, 1), 0);
    }

    private static void judgeAnswers() {
        sentence("JUDGED: how many TELLINGS, if all are RIGHT; else NONE less the number of the first that isn't "
                + "(-1 for number 0, -2 for 1, ..); FULL (-1000): it is no such row.");
        OneHead x = of(LINE + "news a c 9 1;");
        due("none", judge(x, ""), 0);
        due("one", judge(x, "0 0;"), 1);
        due("number 0", judge(x, "1 0;"), -1);
        due("number 1", judge(x, "0 0;3 1;"), -2);
        due("number 2", judge(x, "0 0;3 0;2 0;"), -3);
        due("225", judge(x, "0 0;".repeat(225)), 225);
        due("number 224", judge(x, "0 0;".repeat(224) + "0 1;"), -225);
        for (String none : new String[] {";", "0", "0;", "0 0", "0 0;0", "0 0;0 0", "0 0 0;", "0 0;;", "0 0,",
            "a 0;", "0 a;", "a;", "0 0;x", "0 0;!", "-1 0;", "64 0;", "0 4;", "0000 0;", "0 0000;"}) {
            due("judge() of \"" + none + "\"", judge(x, none), NO_ROW);
        }
        due("a row cut within its last telling", judge(x, "0 0;".repeat(224) + "0 0 "), NO_ROW);
    }

    private static void judgedAnswers() {
        sentence("By the latest judge() that was a row: with whom a PIECE is, what 0; 1: 1 if it came in time, else 0; "
                + "NONE: there was none, or another what; RANGE: no such NEWS.");
        OneHead x = of(LINE + "news a c 20 1;");
        due("there was none", x.judged(0, 0), NONE);
        due("there was none", x.judged(0, 1), NONE);
        judge(x, "0 0");
        due("there was no row", x.judged(0, 0), NONE);
        judge(x, "0 0;2 0;");
        due("judged(0, 0)", x.judged(0, 0), 2);
        due("judged(0, 1)", x.judged(0, 1), 1);
        for (int what : new int[] {-1, 2, 3, Integer.MAX_VALUE, Integer.MIN_VALUE}) {
            due("judged(0, " + what + ")", x.judged(0, what), NONE);
        }
        for (int news : new int[] {-1, 1, 4, Integer.MAX_VALUE, Integer.MIN_VALUE}) {
            due("judged(" + news + ", 0)", x.judged(news, 0), RANGE);
            due("judged(" + news + ", 1)", x.judged(news, 1), RANGE);
        }
        judge(x, "64 0;");
        due("no row: the one before counts", x.judged(0, 0), 2);
        fight(x, "0 0;", 0);
        due("a fight() is no judge()", x.judged(0, 0), 2);
        judge(x, "0 0;");
        due("the latest", x.judged(0, 0), 1);
        due("the latest", x.judged(0, 1), 0);
        judge(x, "1 0;");
        due("the latest, though its first can't be", x.judged(0, 0), 0);
    }
}
