/** One piece, all pieces, a reply: Terms III, promises 11 to 16. */
final class EdgesOfPieces extends Sentences {
    private static final String LOW = "person a 1;person b 1;person c 1;";
    /** TIMES of a day: 0 a-b at 8, 1 b-c at 8, 2 b-c at 20. */
    private static final String LINE = LOW + "meet a b 8;meet b c 20;meet b c 8;";
    private static final String SEVEN =
            LOW + "person d 1;person e 1;person f 1;person g 1;";
    private static final String PAIR = "person a 1;person b 1;";

    private EdgesOfPieces() {
    }

    static void all() {
        soon();
        soonAndBarred();
        soonAnswers();
        surestTimes();
        surestChance();
        figures();
        surestAnswers();
        bars();
        barsAnswers();
        allTogether();
        tellingsAtOneTime();
        apart();
        allAnswers();
        together();
        togetherAnswers();
        replyRows();
        replyTimes();
        replyAnswers();
    }

    private static void soon() {
        sentence("of one PIECE alone with a PERSON ahead of a TIME: the least TIME behind which it can be with another "
                + "one, by MEETINGS that are SURELY (none barred from it).");
        OneHead x = of(LINE + "news a c 9 1;news b a 9 1;news c b 9 1;");
        due("that time, too, and full heads are no matter", x.soon(0, 0, 1, 0), 0);
        due("that time is over", x.soon(0, 0, 1, 1), 3);
        int[] toC = {1, 4, 4, 4, 7, 7, 7, 10, 10, 10, NONE, NONE, NONE};
        int[] toA = {3, 3, 3, 6, 6, 6, 9, 9, 9, NONE, NONE, NONE, NONE};
        for (int t = 0; t <= 12; t++) {
            due("soon(0, 0, 2, " + t + ")", x.soon(0, 0, 2, t), toC[t]);
            due("soon(0, 2, 0, " + t + ")", x.soon(0, 2, 0, t), toA[t]);
        }
        due("it was never told to be in time", of(LINE + "news a c 0 1;").soon(0, 0, 2, 9), 10);
        OneHead often = of(LOW + "meet a b 1 chance 9;meet a c 2;meet c b 3 chance 10;news a b 9 1;");
        due("not by chance", often.soon(0, 0, 1, 0), 2);
        OneHead kept = of(LOW + "meet a b 3;meet b c 2;meet a b 1;news a c 9 1;");
        due("the soonest way", kept.soon(0, 0, 2, 0), 1);
        due("kept till then", kept.soon(0, 0, 2, 1), 4);
    }

    private static void soonAndBarred() {
        sentence("(It is with nobody who is barred, but perhaps the first.)");
        OneHead x = of(LOW + "person d 1;meet a b 1;meet b d 2;meet a c 3;meet c d 4;"
                + "news a d 9 1;news c b 9 1;bar b 0;bar c 0;bar d 1;");
        due("to one who is barred", x.soon(0, 0, 1, 0), NONE);
        due("over two who are barred", x.soon(0, 0, 3, 0), NONE);
        due("from one who is barred", x.soon(0, 1, 3, 0), 1);
        due("from the other who is barred", x.soon(0, 2, 3, 0), 3);
        due("it doesn't come back to the barred", x.soon(0, 1, 2, 0), NONE);
        due("barred from another one", x.soon(1, 0, 1, 0), 0);
        due("that one's bars", x.soon(1, 2, 3, 0), NONE);
    }

    private static void soonAnswers() {
        sentence("SOON: of a NEWS (its bars) from a PERSON, ahead of a TIME (0 .. TIMES), to another one: the TIME; "
                + "NONE: not at all; STATE: it is the same PERSON; RANGE.");
        OneHead x = of(LINE + "news a c 9 1;bar b 0;");
        due("its bars", x.soon(0, 0, 2, 0), NONE);
        OneHead y = of(LINE + "news a c 9 1;");
        due("TIME 0", y.soon(0, 0, 1, 0), 0);
        due("TIMES", y.soon(0, 0, 1, 12), NONE);
        due("TIMES and one", y.soon(0, 0, 1, 13), RANGE);
        due("TIME -1", y.soon(0, 0, 1, -1), RANGE);
        for (int p = 0; p < 3; p++) {
            due("the same person " + p, y.soon(0, p, p, 0), STATE);
            due("the same person at the end", y.soon(0, p, p, 12), STATE);
        }
        due("the same person, no such time", y.soon(0, 1, 1, 13), RANGE);
        due("the same person, no such news", y.soon(1, 1, 1, 0), RANGE);
        due("the same one who is none", y.soon(0, 3, 3, 0), RANGE);
        due("from 3", y.soon(0, 3, 0, 0), RANGE);
        due("to 3", y.soon(0, 0, 3, 0), RANGE);
        due("from -1", y.soon(0, -1, 0, 0), RANGE);
        due("to -1", y.soon(0, 0, -1, 0), RANGE);
        due("news 1", y.soon(1, 0, 1, 0), RANGE);
        due("news -1", y.soon(-1, 0, 1, 0), RANGE);
        OneHead none = of(PAIR + "news a b 9 1;");
        due("no times at all", none.soon(0, 0, 1, 0), NONE);
        due("no times at all", none.soon(0, 0, 1, 1), RANGE);
        OneHead most = of(PAIR + "meet a b 1 chance 1;".repeat(15) + "meet a b 2;news a b 9 1;");
        due("the last time", most.soon(0, 0, 1, 63), 63);
        due("all 64", most.soon(0, 0, 1, 64), NONE);
        due("65", most.soon(0, 0, 1, 65), RANGE);
    }

    private static void surestTimes() {
        sentence("by all MEETINGS from a TIME on, up to and with those of an HOUR: at each, if it comes about (as many "
                + "of ten as told, each by itself), who has the PIECE may TELL it or not");
        OneHead x = of(LOW + "meet a b 8 chance 5;meet a b 8 chance 4;meet b c 20 chance 1;news a c 9 1;");
        due("ahead of the hour", x.surest(0, 0, 1, 0, 7, 0), 0);
        due("with those of the hour: 1 less 0.5 * 0.6", x.surest(0, 0, 1, 0, 8, 0), 700000);
        due("up to the next", x.surest(0, 0, 1, 0, 31, 0), 700000);
        due("with the next: 1 less 0.3 * 0.3", x.surest(0, 0, 1, 0, 32, 0), 910000);
        due("from that time on, with it", x.surest(0, 0, 1, 1, 8, 0), 400000);
        due("that time is over", x.surest(0, 0, 1, 2, 8, 0), 0);
        due("the hour is over", x.surest(0, 0, 1, 3, 31, 0), 0);
        due("hour 0", x.surest(0, 0, 1, 0, 0, 0), 0);
        due("the other tells it, too", x.surest(0, 1, 0, 0, 8, 0), 700000);
        due("surely", of(PAIR + "meet a b 0;news a b 9 1;").surest(0, 0, 1, 0, 0, 0), 1000000);
        for (int chance = 1; chance <= 10; chance++) {
            OneHead y = of(PAIR + "meet a b 0 chance " + chance + ";news a b 9 1;");
            due("chance " + chance, y.surest(0, 0, 1, 0, 0, 0), chance * 100000);
        }
    }

    private static void surestChance() {
        sentence("the greatest chance that it is with another PERSON behind them all, whatever is best by what comes "
                + "about: exactly, cut to millionths");
        OneHead y = of(LOW + "meet a b 1 chance 3;meet a c 2 chance 5;meet c b 3 chance 7;news a b 9 1;");
        // a day: 0.3, or else 0.5 * 0.7
        due("c is asked when b doesn't come", y.surest(0, 0, 1, 0, 23, 0), 545000);
        OneHead kept = of(LOW + "meet a b 1;meet a c 2;meet a b 3 chance 1;meet b c 4;news a b 9 1;");
        due("it isn't told when it is better kept", kept.surest(0, 0, 1, 0, 23, 0), 1000000);
        due("it is kept by whom it is for", kept.surest(0, 1, 1, 0, 95, 0), 1000000);
        OneHead tenth = of(PAIR + "meet a b 1 chance 1;".repeat(8) + "news a b 9 1;");
        // 1 less 0.9 to the 7th: 0.5217031, to the 8th: 0.56953279
        due("cut", tenth.surest(0, 0, 1, 1, 23, 0), 521703);
        due("cut, not to the nearest", tenth.surest(0, 0, 1, 0, 23, 0), 569532);
        OneHead nine = of(PAIR + "meet a b 1 chance 9;".repeat(16) + "news a b 9 1;");
        due("1 less 0.1 to the 6th", nine.surest(0, 0, 1, 58, 95, 0), 999999);
        due("1 less 0.1 to the 64th is not all", nine.surest(0, 0, 1, 0, 95, 0), 999999);
        OneHead chain = of(SEVEN + "meet a b 1 chance 1;meet b c 2 chance 1;meet c d 3 chance 1;meet d e 4 chance 1;"
                + "meet e f 5 chance 1;meet f g 6 chance 1;news a g 9 1;");
        due("0.1 to the 6th: one millionth", chain.surest(0, 0, 6, 0, 6, 0), 1);
        due("the last step is left out", chain.surest(0, 0, 6, 0, 5, 0), 0);
        OneHead barred = of(LINE + "news a c 9 1;bar b 0;");
        due("over one who is barred", barred.surest(0, 0, 2, 0, 95, 0), 0);
        due("to one who is barred", barred.surest(0, 0, 1, 0, 95, 0), 0);
        due("from one who is barred", barred.surest(0, 1, 2, 0, 95, 0), 1000000);
        due("kept by one who is barred", barred.surest(0, 1, 1, 0, 95, 0), 1000000);
        OneHead turned = of(LOW + "meet b a 8;meet c b 20;news a c 9 1;bar b 0;");
        due("over one who is barred, told first", turned.surest(0, 0, 2, 0, 95, 0), 0);
        due("to one who is barred, told first", turned.surest(0, 2, 1, 0, 95, 0), 0);
        due("from one who is barred, told first", turned.surest(0, 1, 2, 0, 95, 0), 1000000);
        OneHead full = of(LINE + "news a c 9 1;news b a 9 1;news c a 9 1;");
        due("full heads are no matter", full.surest(0, 0, 2, 0, 8, 0), 1000000);
    }

    private static void figures() {
        sentence("FIGURES: how many figures it has behind the point, as a number of tenths and tenths of these without "
                + "zeros at the end (0 for none and all).");
        OneHead x = of(LOW + "meet a b 1 chance 5;meet b c 2 chance 4;meet b c 3 chance 5;meet a c 4;news a c 9 1;");
        due("0.5", x.surest(0, 0, 1, 0, 1, 1), 1);
        due("0.5 * 0.4 = 0.20", x.surest(0, 0, 2, 0, 2, 1), 1);
        due("0.5 * 0.70 = 0.35", x.surest(0, 0, 2, 0, 3, 1), 2);
        due("all", x.surest(0, 0, 2, 0, 4, 1), 0);
        due("none", x.surest(0, 0, 2, 0, 1, 1), 0);
        due("the same person", x.surest(0, 2, 2, 0, 1, 1), 0);
        OneHead tenth = of(PAIR + "meet a b 1 chance 1;".repeat(16) + "news a b 9 1;");
        OneHead half = of(PAIR + "meet a b 1 chance 5;".repeat(16) + "news a b 9 1;");
        OneHead nine = of(PAIR + "meet a b 1 chance 9;".repeat(16) + "news a b 9 1;");
        for (int n = 0; n <= 64; n++) {
            due("1 less 0.9 to the " + n, tenth.surest(0, 0, 1, 64 - n, 95, 1), n);
            due("1 less 0.5 to the " + n, half.surest(0, 0, 1, 64 - n, 95, 1), n);
            due("1 less 0.1 to the " + n, nine.surest(0, 0, 1, 64 - n, 95, 1), n);
        }
        OneHead chain = of(SEVEN + "meet a b 1 chance 1;meet b c 2 chance 1;meet c d 3 chance 1;meet d e 4 chance 1;"
                + "meet e f 5 chance 1;meet f g 6 chance 1;news a g 9 1;");
        due("0.000001", chain.surest(0, 0, 6, 0, 23, 1), 6);
        OneHead few = of(LOW + "person d 1;meet a b 1 chance 5;" + "meet c d 2 chance 7;".repeat(15) + "news a b 9 1;");
        int[] halves = {1, 2, 3, 4};
        for (int day = 0; day < 4; day++) {
            due("few figures of many times, day " + day, few.surest(0, 0, 1, 0, 24 * day + 23, 1), halves[day]);
        }
        due("none of many times", few.surest(0, 0, 2, 0, 95, 1), 0);
        due("all of many times", few.surest(0, 1, 1, 0, 95, 1), 0);
    }

    private static void surestAnswers() {
        sentence("SUREST likewise, up to an HOUR (0 .. 95), what 0: millionths, 1: FIGURES; RANGE. "
                + "(The same PERSON: may TELL it on, or keep it.)");
        OneHead x = of(LINE + "news a c 9 1;");
        due("HOUR 95", x.surest(0, 0, 2, 0, 95, 0), 1000000);
        due("HOUR 0", x.surest(0, 0, 2, 0, 0, 0), 0);
        due("HOUR 96", x.surest(0, 0, 2, 0, 96, 0), RANGE);
        due("HOUR -1", x.surest(0, 0, 2, 0, -1, 0), RANGE);
        due("what 2", x.surest(0, 0, 2, 0, 95, 2), RANGE);
        due("what -1", x.surest(0, 0, 2, 0, 95, -1), RANGE);
        due("TIMES", x.surest(0, 0, 2, 12, 95, 0), 0);
        due("TIMES and one", x.surest(0, 0, 2, 13, 95, 0), RANGE);
        due("TIME -1", x.surest(0, 0, 2, -1, 95, 0), RANGE);
        due("news 1", x.surest(1, 0, 2, 0, 95, 0), RANGE);
        due("news -1", x.surest(-1, 0, 2, 0, 95, 0), RANGE);
        due("from 3", x.surest(0, 3, 2, 0, 95, 0), RANGE);
        due("from -1", x.surest(0, -1, 2, 0, 95, 0), RANGE);
        due("to 3", x.surest(0, 0, 3, 0, 95, 0), RANGE);
        due("to -1", x.surest(0, 0, -1, 0, 95, 0), RANGE);
        for (int p = 0; p < 3; p++) {
            due("the same person " + p, x.surest(0, p, p, 0, 95, 0), 1000000);
            due("the same person " + p, x.surest(0, p, p, 12, 0, 0), 1000000);
            due("the same person " + p, x.surest(0, p, p, 0, 95, 1), 0);
        }
        due("no times at all", of(PAIR + "news a b 9 1;").surest(0, 0, 1, 0, 95, 0), 0);
    }

    private static void bars() {
        sentence("PEOPLE, but the two, each of whom alone, if barred, would make SOON of two PEOPLE none (nobody, if it "
                + "is none already).");
        String steps = "meet a b 1;meet b c 2;meet c d 3;meet d e 4;meet e f 5;meet f g 6;";
        OneHead chain = of(SEVEN + steps + "news a g 9 1;");
        due("all five between the first and the last", chain.bars(0, 0, 6, 0), 62);
        due("of a part", chain.bars(0, 1, 4, 0), 12);
        due("none between", chain.bars(0, 3, 4, 0), 0);
        OneHead round = of(SEVEN + steps + "meet b e 1;news a g 9 1;");
        due("two ways over c, d or neither", round.bars(0, 0, 6, 0), 50);
        OneHead byChance = of(SEVEN + steps + "meet a g 1 chance 9;news a g 9 1;");
        due("a way by chance is none", byChance.bars(0, 0, 6, 0), 62);
        due("over the first one of all", of(LOW + "meet b a 1;meet a c 2;news a c 9 1;").bars(0, 1, 2, 0), 1);
        OneHead barred = of(SEVEN + steps + "meet b e 1;news a g 9 1;bar c 0;");
        due("c is barred already, that bars nobody", barred.bars(0, 0, 6, 0), 50);
        due("from c, over d or the next day over b", barred.bars(0, 2, 4, 0), 0);
        due("from c, who is barred, over d alone",
                of(SEVEN + steps + "news a g 9 1;bar c 0;").bars(0, 2, 4, 0), 8);
        due("to c: none already", barred.bars(0, 0, 2, 0), 0);
        due("none already, from a time", chain.bars(0, 0, 6, 19), 0);
        due("at the end", chain.bars(0, 0, 6, 24), 0);
        OneHead late = of(LOW + "meet a c 1;meet a b 2;meet b c 3;news a c 9 1;");
        due("two ways", late.bars(0, 0, 2, 0), 0);
        due("one way is over", late.bars(0, 0, 2, 10), 2);
    }

    private static void barsAnswers() {
        sentence("BARS between two unlike PEOPLE, from a TIME on, as bits; RANGE.");
        OneHead x = of(LINE + "news a c 9 1;");
        due("bars(0, 0, 2, 0)", x.bars(0, 0, 2, 0), 2);
        due("bars(0, 2, 0, 0)", x.bars(0, 2, 0, 0), 2);
        due("TIME 9", x.bars(0, 0, 2, 9), 2);
        due("TIMES", x.bars(0, 0, 2, 12), 0);
        due("TIMES and one", x.bars(0, 0, 2, 13), RANGE);
        due("TIME -1", x.bars(0, 0, 2, -1), RANGE);
        for (int p = 0; p < 3; p++) {
            due("the same person " + p, x.bars(0, p, p, 0), RANGE);
        }
        due("news 1", x.bars(1, 0, 2, 0), RANGE);
        due("news -1", x.bars(-1, 0, 2, 0), RANGE);
        due("from 3", x.bars(0, 3, 2, 0), RANGE);
        due("from -1", x.bars(0, -1, 2, 0), RANGE);
        due("to 3", x.bars(0, 0, 3, 0), RANGE);
        due("to -1", x.bars(0, 0, -1, 0), RANGE);
    }

    private static void allTogether() {
        sentence("all PIECES, as at first, by MEETINGS that are SURELY, with what each holds: the greatest sum of WORTH "
                + "of those that are IN TIME");
        String narrow = "person a 2;person b 1;person c 2;meet a b 1;meet b c 2;";
        due("one a day", of(narrow + "news a c 23 5;news a c 23 9;").all(0), 9);
        due("one a day, whichever number it has", of(narrow + "news a c 23 9;news a c 23 5;").all(0), 9);
        due("the second on the next day", of(narrow + "news a c 26 5;news a c 23 9;").all(0), 14);
        due("an hour too late", of(narrow + "news a c 25 5;news a c 23 9;").all(0), 9);
        due("at its hour", of(PAIR + "meet a b 5;news a b 5 7;").all(0), 7);
        due("behind its hour", of(PAIR + "meet a b 5;news a b 4 7;").all(0), 0);
        due("hour 0", of(PAIR + "meet a b 0;news a b 0 7;").all(0), 7);
        due("the last hour", of(PAIR + "meet a b 23;news a b 95 7;").all(0), 7);
        due("not by chance", of(PAIR + "meet a b 5 chance 9;news a b 95 7;").all(0), 0);
        due("barred", of(PAIR + "meet a b 5;news a b 95 7;bar b 0;").all(0), 0);
        due("told on behind its hour to make room",
                of(LOW + "person d 1;meet a b 1;meet b d 2;meet b c 3;news a b 1 5;news c b 3 4;").all(0), 9);
        due("not told on before its hour",
                of(LOW + "person d 1;meet a b 1;meet b d 2;meet b c 3;news a b 2 5;news c b 3 4;").all(0), 5);
        due("no room is made", of(LOW + "meet a b 1;meet b c 3;news a b 1 5;news c b 3 4;").all(0), 5);
        due("the first one of all barred", of(PAIR + "meet a b 5;news b a 95 7;bar a 0;").all(0), 0);
        due("told back behind its hour to make room",
                of("person a 2;person b 1;meet a b 1;news a b 1 5;news a b 25 7;").all(0), 12);
        due("told back behind a later hour, when nothing came of a day",
                of("person a 2;person b 1;meet a b 1;news a b 49 5;news a b 73 7;").all(0), 12);
        due("a step each day",
                of(SEVEN + "meet d e 1;meet c d 2;meet b c 3;meet a b 4;news a e 73 5;").all(0), 5);
        due("a step each day, an hour too late",
                of(SEVEN + "meet d e 1;meet c d 2;meet b c 3;meet a b 4;news a e 72 5;").all(0), 0);
        OneHead again = of(PAIR + "meet a b 5;news a b 95 7;bar b 0;");
        due("barred", again.all(0), 0);
        due("told anew without a bar", tellVillage(again, PAIR + "meet a b 5;news a b 95 7;"), 4);
        due("barred no more", again.all(0), 7);
        manyStates();
        due("others in the way",
                of(LINE + "news a c 8 5;news b a 95 0;").all(0), 0);
        due("the most that can be", of("person a 3;person b 3;meet a b 0;" + "news a b 95 99;".repeat(3)
                + "news b a 95 99;").all(0), 396);
        due("WORTH 0", of(PAIR + "meet a b 5;news a b 5 0;").all(0), 0);
        due("no news", of(PAIR + "meet a b 5;").all(0), 0);
        due("no meetings", of(PAIR + "news a b 95 7;").all(0), 0);
    }

    /** Four pieces that can be with seven people each, and the same twice on one object. */
    private static void manyStates() {
        String wide = SEVEN.replace(" 1;", " 3;") + "meet a b 1;meet b c 2;meet c d 3;meet d e 4;meet e f 5;meet f g 6;"
                + "meet g f 7;meet f e 8;meet e d 9;meet d c 10;meet c b 11;meet b a 12;"
                + "news a g 6 1;news a g 30 2;news g a 95 4;news d b 95 8;";
        OneHead x = new OneHead();
        for (int i = 0; i < 2; i++) {
            due("many ways", tellVillage(x, wide), 23);
            due("all of them", x.all(0), 15);
            due("one with one, the others wherever they are", x.together(4, 0), 11);
            due("two with one", x.together(12, 0), 11);
            due("three with the last", x.together(7, 6), 5);
            due("three with the first", x.together(13, 0), 11);
            due("four with nobody", x.together(15, 3), NONE);
        }
    }

    private static void tellingsAtOneTime() {
        sentence("at one TIME, one of both may TELL, and the other too, as many as there is room for, one behind the "
                + "other (a PIECE at most once at a TIME).");
        for (int holds = 1; holds <= 3; holds++) {
            OneHead x = of("person a 3;person b " + holds + ";meet a b 1;news a b 9 1;news a b 9 2;news a b 9 4;");
            due("b holds " + holds, x.all(0), new int[] {0, 4, 6, 7}[holds]);
        }
        for (int set = 0; set < 16; set++) {
            StringBuilder s = new StringBuilder("person a 3;person b 3;meet a b 1;"
                    + "news a b 1 1;news a b 1 2;news b a 1 4;news b a 1 8;");
            for (int n = 0; n < 4; n++) {
                s.append((set >> n & 1) == 1 ? "" : (n < 2 ? "bar b " : "bar a ") + n + ";");
            }
            int room = set == 3 ? 2 : set == 12 ? 8 : set;
            due("those that aren't barred, " + set, of(s.toString()).all(0), room);
        }
        due("two full heads", of(PAIR + "meet a b 1;news a b 9 5;news b a 9 3;").all(0), 0);
        due("room for one: first a, then b",
                of("person a 1;person b 2;meet a b 1;news a b 9 5;news b a 9 3;").all(0), 8);
        due("room for one: first b, then a",
                of("person a 2;person b 1;meet a b 1;news a b 9 5;news b a 9 3;").all(0), 8);
        due("two full heads of two",
                of("person a 2;person b 2;meet a b 1;news a b 9 1;news a b 9 2;news b a 9 4;news b a 9 8;").all(0), 0);
        due("turn by turn",
                of("person a 2;person b 2;meet a b 1;news a b 9 1;news a b 9 2;news b a 9 4;").all(0), 7);
        due("turn by turn, two for two",
                of("person a 2;person b 3;meet a b 1;news a b 9 1;news a b 9 2;news b a 9 4;news b a 9 8;").all(0), 15);
        due("three to one who holds two",
                of("person a 3;person b 2;meet a b 1;news a b 9 1;news a b 9 2;news a b 9 4;news b a 9 8;").all(0), 14);
    }

    private static void apart() {
        sentence("APART: the sum of WORTH of those that alone (with nobody holding others) could be IN TIME.");
        due("two full heads", of(PAIR + "meet a b 1;news a b 9 5;news b a 9 3;").all(1), 8);
        due("at its hour", of(PAIR + "meet a b 5;news a b 5 7;").all(1), 7);
        due("behind its hour", of(PAIR + "meet a b 5;news a b 4 7;").all(1), 0);
        due("behind the hour of one", of(PAIR + "meet a b 5;news a b 4 7;news b a 5 3;").all(1), 3);
        due("not by chance", of(PAIR + "meet a b 5 chance 9;news a b 95 7;").all(1), 0);
        due("barred", of(PAIR + "meet a b 5;news a b 95 7;bar b 0;").all(1), 0);
        due("over one who is barred", of(LINE + "news a c 95 7;bar b 0;").all(1), 0);
        due("over two", of(LINE + "news a c 8 7;").all(1), 7);
        due("the other way", of(LINE + "news c a 32 7;").all(1), 7);
        due("the other way, too late", of(LINE + "news c a 31 7;").all(1), 0);
        due("the most that can be", of("person a 3;person b 3;meet a b 0;" + "news a b 95 99;".repeat(3)
                + "news b a 95 99;").all(1), 396);
        due("no news", of(PAIR + "meet a b 5;").all(1), 0);
    }

    private static void allAnswers() {
        sentence("ALL (what 0), APART (1): WORTH; RANGE.");
        OneHead x = of(PAIR + "meet a b 1;news a b 9 5;news b a 9 3;");
        due("all(0)", x.all(0), 0);
        due("all(1)", x.all(1), 8);
        due("all(0) again", x.all(0), 0);
        due("all(2)", x.all(2), RANGE);
        due("all(-1)", x.all(-1), RANGE);
        due("a new village", tellVillage(x, "person a 1;person b 2;meet a b 1;news a b 9 5;news b a 9 3;"), 5);
        due("all(0) of it", x.all(0), 8);
        due("nothing told", new OneHead().all(0), 0);
        due("nothing told", new OneHead().all(2), RANGE);
    }

    private static void together() {
        sentence("TOGETHER: the least TIME behind which PIECES of a set can all be with one PERSON, all others being "
                + "there, too, as for ALL.");
        OneHead others = of(LINE + "news a c 9 1;news b a 9 1;");
        due("b has to tell his own one first", others.together(1, 1), 3);
        due("alone it would be sooner", of(LINE + "news a c 9 1;").together(1, 1), 0);
        OneHead parts = of("person a 1;person b 1;person c 3;person d 1;meet a c 1;meet b c 2;meet d c 3;"
                + "news a b 0 1;news b a 0 1;news d a 0 1;news c a 0 1;");
        due("one part", parts.together(1, 2), 0);
        due("two parts", parts.together(3, 2), 1);
        due("three parts need room: c tells his own one", parts.together(7, 2), 2);
        due("all four never", parts.together(15, 2), NONE);
        due("his own one and two parts", parts.together(11, 2), 1);
        OneHead byChance = of(PAIR + "meet a b 1 chance 9;news a b 9 1;");
        due("not by chance", byChance.together(1, 1), NONE);
        OneHead late = of(LOW + "meet a c 0;meet a b 5;news b a 0 9;");
        due("behind its hour", late.together(1, 0), 1);
        due("behind its hour it is worth nothing", late.all(0), 0);
        OneHead barred = of(PAIR + "meet a b 1;news a b 9 1;bar b 0;");
        due("barred", barred.together(1, 1), NONE);
        OneHead back = of("person a 1;person b 2;meet a b 1;news a b 9 1;news b a 9 1;");
        due("told at one time", back.together(2, 0), 0);
        due("both with b", back.together(3, 1), 0);
        OneHead last = of(LOW + "meet b c 1;meet c b 1;meet b a 2;meet b c 0;news c a 9 1;news a c 9 1;");
        due("two can't pass each other over one head", last.together(1, 0), NONE);
    }

    private static void togetherAnswers() {
        sentence("TOGETHER: of a set of NEWS (bits, one at least) and a PERSON: the TIME; NONE: never; "
                + "STATE: they are there at first; RANGE.");
        OneHead x = of("person a 3;person b 3;person c 3;meet a b 1;news a b 9 1;news a b 9 1;news b a 9 1;");
        due("a set of none", x.together(0, 0), RANGE);
        due("one", x.together(1, 1), 0);
        due("all", x.together(7, 1), 0);
        due("one more", x.together(8, 1), RANGE);
        due("-1", x.together(-1, 1), RANGE);
        due("16", x.together(16, 1), RANGE);
        due("there at first", x.together(1, 0), STATE);
        due("both there at first", x.together(3, 0), STATE);
        due("one of them there at first", x.together(5, 0), 0);
        due("never", x.together(1, 2), NONE);
        due("person 3", x.together(1, 3), RANGE);
        due("person -1", x.together(1, -1), RANGE);
        due("a set of none, no such person", x.together(0, 3), RANGE);
        OneHead four = of("person a 3;person b 3;meet a b 1;news a b 9 1;news a b 9 1;news b a 9 1;news b a 9 1;");
        due("15", four.together(15, 0), NONE);
        due("16 of four", four.together(16, 0), RANGE);
        due("8 of four", four.together(8, 1), STATE);
        due("no news", of(PAIR + "meet a b 1;").together(1, 0), RANGE);
        OneHead most = of(PAIR + "meet a b 1 chance 1;".repeat(15) + "meet a b 2;news a b 9 1;");
        due("sixteenth meeting", most.together(1, 1), 15);
    }

    private static void replyRows() {
        sentence("THE TAPE is a row of PEOPLE over whom it came (a byte each, 48 and the number, two at least, each "
                + "unlike the one ahead)");
        OneHead x = of(LINE);
        due("none", reply(x, "", 0), NONE);
        due("one", reply(x, "0", 0), NONE);
        due("two", reply(x, "01", 0), 0);
        due("alike ones, but not beside each other", reply(x, "010", 0), 3);
        due("one like the one ahead", reply(x, "011", 0), NONE);
        due("one like the one ahead, at first", reply(x, "001", 0), NONE);
        due("two alike", reply(x, "00", 0), NONE);
        due("byte 48 and 3", reply(x, "13", 0), NONE);
        due("byte 47", reply(x, "1/", 0), NONE);
        due("byte 0 and 1", reply(x, "" + (char) 0 + (char) 1, 0), NONE);
        due("a blank", reply(x, "0 1", 0), NONE);
        due("a blank behind", reply(x, "01 ", 0), NONE);
        due("byte 176 and 177", reply(x, "" + (char) 176 + (char) 177, 0), NONE);
        OneHead seven = of(SEVEN + "meet a g 1;");
        due("the seventh", reply(seven, "06", 0), 0);
        due("an eighth", reply(seven, "07", 0), NONE);
        due("no people", reply(new OneHead(), "01", 0), NONE);
    }

    private static void replyTimes() {
        sentence("from a TIME on (that one, too) it goes back from the last to the first, one by one, by MEETINGS that "
                + "are SURELY: the least TIME behind which it is with the first.");
        OneHead x = of(LINE);
        int[] times = {3, 3, 3, 6, 6, 6, 9, 9, 9, NONE, NONE, NONE, NONE};
        for (int t = 0; t <= 12; t++) {
            due("reply(" + t + ") of 012", reply(x, "012", t), times[t]);
        }
        due("that one, too", reply(x, "01", 3), 3);
        due("that one is over", reply(x, "01", 4), 6);
        due("from the last to the first", reply(x, "210", 0), 1);
        due("four times over", reply(x, "01010", 0), 9);
        due("five times over", reply(x, "010101", 0), NONE);
        due("two meetings of a day", reply(x, "121", 0), 2);
        due("the two don't meet", reply(x, "02", 0), NONE);
        due("over one by one", reply(x, "0121", 0), 3);
        OneHead byChance = of(LOW + "meet a b 1 chance 9;meet a b 2;meet a c 3;meet c b 1;");
        due("not by chance", reply(byChance, "01", 0), 2);
        due("not over others", reply(byChance, "01", 3), 6);
        due("bars are no matter", reply(of(LINE + "news a c 9 1;bar b 0;"), "012", 0), 3);
        OneHead most = of(PAIR + "meet a b 1 chance 1;".repeat(15) + "meet a b 2;");
        due("the last time of all", reply(most, "01", 48), 63);
        due("the last time of all, four over", reply(most, "01010", 0), 63);
    }

    private static void replyAnswers() {
        sentence("A REPLY from a TIME on: the TIME; NONE: never, or it is no such row; RANGE: TIME 0 .. TIMES.");
        OneHead x = of(LINE);
        due("TIME 0", reply(x, "01", 0), 0);
        due("TIME 11", reply(x, "12", 11), 11);
        due("never", reply(x, "01", 11), NONE);
        due("TIMES", reply(x, "12", 12), NONE);
        due("TIMES and one", reply(x, "12", 13), RANGE);
        due("TIME -1", reply(x, "12", -1), RANGE);
        due("no such row, no such time", reply(x, "1", 13), RANGE);
        OneHead most = of(PAIR + "meet a b 1;".repeat(16));
        due("TIME 63", reply(most, "01", 63), 63);
        due("TIME 64", reply(most, "01", 64), NONE);
        due("TIME 65", reply(most, "01", 65), RANGE);
        due("no times", reply(of(PAIR), "01", 0), NONE);
        due("no times", reply(of(PAIR), "01", 1), RANGE);
    }
}
