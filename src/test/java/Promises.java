/** Each promise of the document by hand: ordinary inputs, the edges it names, wrong inputs. */
public final class Promises extends Checks {
    /** TIMES of a day: 0 ana-bob 8, 1 bob-cid 9 (5 of ten), 2 bob-cid 20. */
    private static final String SMALL = "person ana 1; person bob 2; person cid 1 dies 100;"
            + "meet ana bob 8; meet bob cid 20; meet bob cid 9 chance 5;"
            + "news ana cid 30 10; news bob ana 20 7;";
    private static final String THREE = "person a 1;person b 1;person c 1;";

    public static void main(String[] args) {
        newObject();
        feeding();
        ending();
        villages();
        faults();
        toldThings();
        meetingsAndTimes();
        judging();
        soonAndBars();
        surest();
        allPieces();
        together();
        replies();
        rings();
        whereNow();
        fights();
        rules();
        runs();
        slots();
        counts();
        finish();
    }

    private static void newObject() {
        about = "promise 1";
        OneHead x = new OneHead();
        for (int what = 0; what < 4; what++) {
            due("told(" + what + ")", x.told(what), 0);
        }
        due("count(0)", x.count(0), 0);
        due("count(1)", x.count(1), 0);
        due("fault(0)", x.fault(0), 0);
        due("fault(1)", x.fault(1), NONE);
        due("go(0)", x.go(0), STATE);
        due("take(0)", x.take(0), STATE);
        due("believe(0)", x.believe(0), NONE);
        due("begin(1)", x.begin(1), 1);
        due("go(0)", x.go(0), 0);
    }

    private static void feeding() {
        about = "promise 2";
        OneHead x = new OneHead();
        for (int i = 1; i <= 45; i++) {
            due("feed", x.feed(0, 0, 0, 0, 0), 20 * i);
        }
        due("feed", x.feed(0, 0, 0, 0, 0), FULL);
        due("count(1)", x.count(1), 900);
        x.end(881);
        due("feed at 881", x.feed(0, 0, 0, 0, 0), FULL);
        x.end(880);
        due("feed at 880", x.feed(0, 0, 0, 0, 0), 900);
        x.end(0);
        // "person a 1;" and nine blanks: the highest byte of each int first
        x.feed(0x70657273, 0x6f6e2061, 0x20313b20, 0x20202020, 0x20202020);
        due("village()", x.village(), 1);
        // bytes above 127 stay bytes
        x.feed(0x20ff2020, 0x20202020, 0x20202020, 0x20202020, 0x20202020);
        due("village()", x.village(), NONE);
        due("fault(1)", x.fault(1), 1);
    }

    private static void ending() {
        about = "promise 3";
        OneHead x = new OneHead();
        x.feed(0, 0, 0, 0, 0);
        due("end(21)", x.end(21), NONE);
        due("end(-1)", x.end(-1), NONE);
        due("count(1)", x.count(1), 20);
        due("end(20)", x.end(20), 20);
        due("end(7)", x.end(7), 7);
        due("end(8)", x.end(8), NONE);
        due("count(1)", x.count(1), 7);
        due("end(0)", x.end(0), 0);
    }

    private static void villages() {
        about = "promise 4";
        OneHead x = new OneHead();
        due("village()", x.village(), 0);
        due("village()", tellVillage(x, SMALL), 8);
        due("count(1)", x.count(1), 0);
        x.rule(0, 2, 0);
        x.begin(3);
        x.keep(1);
        judge(x, "0 0;");
        fight(x, "0 0;", 0);
        due("village() of a fault", tellVillage(x, "person a 1;person a"), NONE);
        due("count(1)", x.count(1), 0);
        due("told(0)", x.told(0), 3);
        due("count(0)", x.count(0), 8);
        due("judged(0, 0)", x.judged(0, 0), 1);
        due("believe(0)", x.believe(0), 3);
        due("go(1)", x.go(1), 1);
        due("take(1)", x.take(1), 0);
        due("rule(0, 2, 0)", x.rule(0, 2, 0), 2);
        due("village() again", tellVillage(x, SMALL), 8);
        due("rule(0, 3, 0)", x.rule(0, 3, 0), 3);
        due("go(0)", x.go(0), STATE);
        due("take(1)", x.take(1), STATE);
        due("judged(0, 0)", x.judged(0, 0), NONE);
        due("believe(0)", x.believe(0), NONE);
        due("all(0)", x.all(0), 17);
        due("village() of blanks", tellVillage(x, " \n "), 0);
        due("all(0)", x.all(0), 0);
        due("told(0)", x.told(0), 0);
        due("no blanks", tellVillage(x, "person\na1dies5;person b2;meet a b08chance1;"), 3);
        due("told(20)", x.told(20), 5);
        due("meeting(0, 2)", x.meeting(0, 2), 8);
        due("words that are names", tellVillage(x, "person person 1;person meet 1;meet person meet 3;"), 3);
        due("eight letters", tellVillage(x, "person abcdefgh 1;person abcdefgi 1;"), 2);
        due("three digits", tellVillage(x, "person a 001 dies 500;"), 1);
    }

    private static void faults() {
        about = "promise 5";
        OneHead x = new OneHead();
        due("fault(2)", x.fault(2), NONE);
        due("fault(-1)", x.fault(-1), NONE);
        tellVillage(x, ";");
        due("fault(0)", x.fault(0), 1);
        tellVillage(x, "");
        due("fault(0)", x.fault(0), 0);
        due("fault(1)", x.fault(1), NONE);
        dueFault(";", 1, 0);
        dueFault("per", 1, 0);
        dueFault("person", 1, 6);
        dueFault("person a  ", 1, 10);
        dueFault("person a 1", 1, 10);
        dueFault("person 1", 1, 7);
        dueFault("person a b", 1, 9);
        dueFault("person a 1 die", 1, 11);
        dueFault("person a 1 dies;", 1, 15);
        dueFault("person a 1 dies 1 dies", 1, 18);
        dueFault("person abcdefghi 1;", 1, 7);
        dueFault("person a 0001;", 1, 9);
        dueFault("person aB 1;", 1, 8);
        dueFault("person a\t1;", 1, 8);
        dueFault("person a 1;;", 1, 11);
        dueFault("person a 0;", 2, 9);
        dueFault("person a 4", 2, 9);
        dueFault("person a 1 dies 501;", 2, 16);
        dueFault("person a 1;person a x", 3, 18);
        dueFault("bar", 1, 3);
        dueFault("bar a 0;", 5, 4);
        dueFault("news a b 1 1;", 5, 5);
        dueFault(THREE + "meet a a 1;", 3, 40);
        dueFault(THREE + "meet a x 1;", 5, 40);
        dueFault(THREE + "meet a b 24;", 2, 42);
        dueFault(THREE + "meet a b 1 chance 0;", 2, 51);
        dueFault(THREE + "meet a b 1 chance 11;", 2, 51);
        dueFault(THREE + "meet a b 1 dies 1;", 1, 44);
        dueFault(THREE + "news a a 1 1;", 3, 40);
        dueFault(THREE + "news a b 96 1;", 2, 42);
        dueFault(THREE + "news a b 95 100;", 2, 45);
        dueFault(THREE + "news a b 95;", 1, 44);
        dueFault(THREE + "news a b 1 1;news a x", 4, 51);
        dueFault(THREE + "bar a 0;", 2, 39);
        dueFault(THREE + "news a b 1 1;bar a 0;", 3, 52);
        dueFault(THREE + "news a b 1 1;bar c 1;", 2, 52);
        dueFault(THREE + "news a b 1 1;bar c 0;bar c 0;", 3, 60);
        dueFault(THREE + "news a b 1 1;bar c 0 1;", 1, 54);
        dueFault(THREE + "person d 1;person e 1;person f 1;person g 1;person", 4, 77);
        String two = "person a 3;person b 3;";
        dueFault(two + "meet a b 1;".repeat(16) + "meet", 4, 198);
        dueFault(two + "news a b 1 1;news a b 1 1;news b a 1 1;news b a 1 1;news", 4, 74);
    }

    private static void toldThings() {
        about = "promise 6";
        OneHead x = of(SMALL + "bar bob 0;bar cid 0;");
        int[][] due = {{0, 3}, {1, 3}, {2, 2}, {3, 12}, {4, NONE}, {9, NONE}, {10, 1}, {11, 2}, {12, 1}, {13, NONE},
            {20, 0}, {22, 100}, {23, NONE}, {30, 0}, {31, 1}, {32, NONE}, {40, 2}, {41, 0}, {42, NONE},
            {50, 30}, {51, 20}, {52, NONE}, {60, 10}, {61, 7}, {62, NONE}, {70, 6}, {71, 0}, {72, NONE},
            {80, NONE}, {-1, NONE}, {-10, NONE}, {Integer.MAX_VALUE, NONE}, {Integer.MIN_VALUE, NONE}};
        for (int[] d : due) {
            due("told(" + d[0] + ")", x.told(d[0]), d[1]);
        }
    }

    private static void meetingsAndTimes() {
        about = "promise 7";
        OneHead x = of(SMALL);
        int[][] meetings = {{0, 1, 8, 10}, {1, 2, 20, 10}, {1, 2, 9, 5}};
        for (int m = 0; m < 3; m++) {
            for (int what = 0; what < 4; what++) {
                due("meeting(" + m + ", " + what + ")", x.meeting(m, what), meetings[m][what]);
            }
        }
        due("meeting(3, 0)", x.meeting(3, 0), RANGE);
        due("meeting(-1, 0)", x.meeting(-1, 0), RANGE);
        due("meeting(0, 4)", x.meeting(0, 4), RANGE);
        due("meeting(0, -1)", x.meeting(0, -1), RANGE);
        about = "promise 8";
        int[] order = {0, 2, 1};
        int[] hours = {8, 9, 20};
        for (int t = 0; t < 12; t++) {
            due("time(" + t + ", 0)", x.time(t, 0), t / 3 * 24 + hours[t % 3]);
            due("time(" + t + ", 1)", x.time(t, 1), order[t % 3]);
        }
        due("time(12, 0)", x.time(12, 0), RANGE);
        due("time(-1, 0)", x.time(-1, 0), RANGE);
        due("time(0, 2)", x.time(0, 2), RANGE);
        OneHead y = of(THREE + "meet b c 5;meet a b 5;meet a c 0;");
        due("alike hours", y.time(1, 1) * 10 + y.time(2, 1), 1);
    }

    private static void judging() {
        about = "promise 9";
        OneHead x = of(SMALL);
        due("all right", judge(x, "0 0;2 0;"), 2);
        due("count(1)", x.count(1), 0);
        due("by chance", judge(x, "0 0;1 0;"), 2);
        due("an empty row", judge(x, " \n"), 0);
        due("no room", judge(x, "0 1;"), -1);
        due("not with them", judge(x, "1 0;"), -1);
        due("ahead of the one before", judge(x, "3 0;0 1;"), -2);
        due("the same time again", judge(x, "0 0;0 1;0 1;0 0;"), 4);
        due("no such time", judge(x, "0 0;12 0;"), -2);
        due("no such news", judge(x, "0 2;"), -1);
        for (String none : new String[] {"64 0;", "0 4;", "0 0", "0 0;0", "0;", "a 0;", "0 0 0;", "0000 0;", "0 0;!", ";"}) {
            due("\"" + none + "\"", judge(x, none), -1000);
        }
        due("the longest row", judge(x, "0 0;".repeat(225)), 225);
        OneHead y = of(THREE + "meet a b 1;meet b c 2;news a c 9 1;bar b 0;");
        due("barred", judge(y, "0 0;"), -1);
        about = "promise 10";
        OneHead z = of(SMALL);
        due("no judge() yet", z.judged(0, 0), NONE);
        judge(z, "0 0;2 0;3 0;");
        due("judged(0, 0)", z.judged(0, 0), 2);
        due("judged(0, 1)", z.judged(0, 1), 1);
        due("judged(1, 0)", z.judged(1, 0), 1);
        due("judged(1, 1)", z.judged(1, 1), 0);
        due("judged(2, 0)", z.judged(2, 0), RANGE);
        due("judged(-1, 0)", z.judged(-1, 0), RANGE);
        due("judged(0, 2)", z.judged(0, 2), NONE);
        judge(z, "no row");
        due("what was judged stays", z.judged(0, 0), 2);
        judge(z, "0 0;2 0;5 0;");
        due("told on behind its hour", z.judged(0, 0), 1);
        due("it was in time", z.judged(0, 1), 1);
        judge(z, "0 0;5 0;");
        due("behind its hour", z.judged(0, 0), 2);
        due("not in time", z.judged(0, 1), 0);
    }

    private static void soonAndBars() {
        about = "promise 11";
        OneHead x = of(SMALL);
        due("soon(0, 0, 2, 0)", x.soon(0, 0, 2, 0), 2);
        due("soon(0, 0, 2, 1)", x.soon(0, 0, 2, 1), 5);
        due("soon(0, 2, 0, 0)", x.soon(0, 2, 0, 0), 3);
        due("soon(0, 0, 2, 10)", x.soon(0, 0, 2, 10), NONE);
        due("soon(0, 0, 2, 12)", x.soon(0, 0, 2, 12), NONE);
        due("soon(0, 0, 2, 13)", x.soon(0, 0, 2, 13), RANGE);
        due("soon(0, 0, 2, -1)", x.soon(0, 0, 2, -1), RANGE);
        due("soon(0, 1, 1, 0)", x.soon(0, 1, 1, 0), STATE);
        due("soon(0, 3, 3, 0)", x.soon(0, 3, 3, 0), RANGE);
        due("soon(0, 0, 3, 0)", x.soon(0, 0, 3, 0), RANGE);
        due("soon(0, -1, 2, 0)", x.soon(0, -1, 2, 0), RANGE);
        due("soon(2, 0, 2, 0)", x.soon(2, 0, 2, 0), RANGE);
        OneHead y = of(THREE + "person d 1;meet a b 1;meet b d 2;meet a c 3;meet c d 4;news a d 9 1;bar b 0;");
        due("round the barred", y.soon(0, 0, 3, 0), 3);
        due("to the barred", y.soon(0, 0, 1, 0), NONE);
        due("from the barred", y.soon(0, 1, 3, 0), 1);
        about = "promise 13";
        due("bars(0, 0, 2, 0)", x.bars(0, 0, 2, 0), 2);
        due("bars(0, 0, 1, 0)", x.bars(0, 0, 1, 0), 0);
        due("none already", x.bars(0, 0, 2, 12), 0);
        due("bars(0, 1, 1, 0)", x.bars(0, 1, 1, 0), RANGE);
        due("bars(0, 0, 2, 13)", x.bars(0, 0, 2, 13), RANGE);
        due("bars(2, 0, 2, 0)", x.bars(2, 0, 2, 0), RANGE);
        due("bars(0, 0, 3, 0)", x.bars(0, 0, 3, 0), RANGE);
        due("the other way is barred", y.bars(0, 0, 3, 0), 4);
        OneHead z = of(THREE + "person d 1;meet a b 1;meet b d 2;meet a c 3;meet c d 4;news a d 9 1;");
        due("two ways", z.bars(0, 0, 3, 0), 0);
        due("one way late", z.bars(0, 0, 3, 13), 4);
    }

    private static void surest() {
        about = "promise 12";
        OneHead x = of(SMALL);
        due("surest(0, 0, 2, 0, 19, 0)", x.surest(0, 0, 2, 0, 19, 0), 500000);
        due("surest(0, 0, 2, 0, 19, 1)", x.surest(0, 0, 2, 0, 19, 1), 1);
        due("up to and with an hour", x.surest(0, 0, 2, 0, 20, 0), 1000000);
        due("all has no figures", x.surest(0, 0, 2, 0, 20, 1), 0);
        due("none", x.surest(0, 0, 2, 0, 8, 0), 0);
        due("none has no figures", x.surest(0, 0, 2, 0, 8, 1), 0);
        due("the same person", x.surest(0, 2, 2, 0, 95, 0), 1000000);
        due("behind all", x.surest(0, 0, 2, 12, 95, 0), 0);
        due("hour 96", x.surest(0, 0, 2, 0, 96, 0), RANGE);
        due("hour -1", x.surest(0, 0, 2, 0, -1, 0), RANGE);
        due("what 2", x.surest(0, 0, 2, 0, 9, 2), RANGE);
        due("news 2", x.surest(2, 0, 2, 0, 9, 0), RANGE);
        due("time 13", x.surest(0, 0, 2, 13, 9, 0), RANGE);
        due("from 3", x.surest(0, 3, 2, 0, 9, 0), RANGE);
        due("to -1", x.surest(0, 0, -1, 0, 9, 0), RANGE);
        OneHead y = of("person a 1;person b 1;person c 1;meet a b 1 chance 3;meet a c 2 chance 5;"
                + "meet c b 3 chance 7;news a b 9 1;");
        // a day: 0.3 + 0.7 * 0.5 * 0.7 = 0.545
        due("a choice by what comes about", y.surest(0, 0, 1, 0, 23, 0), 545000);
        due("its figures", y.surest(0, 0, 1, 0, 23, 1), 3);
        due("keep rather than tell", y.surest(0, 0, 0, 0, 95, 0), 1000000);
        OneHead z = of("person a 1;person b 1;" + "meet a b 1 chance 1;".repeat(16) + "news a b 9 1;");
        // 1 - 0.9^64
        due("64 figures", z.surest(0, 0, 1, 0, 95, 1), 64);
        due("1 less 0.9 to the 64th", z.surest(0, 0, 1, 0, 95, 0), 998820);
        OneHead w = of(THREE + "meet a b 1;meet b c 2;news a c 9 1;bar b 0;");
        due("over a barred one", w.surest(0, 0, 2, 0, 95, 0), 0);
        due("from a barred one", w.surest(0, 1, 2, 0, 95, 0), 1000000);
        due("to a barred one", w.surest(0, 0, 1, 0, 95, 0), 0);
    }

    private static void allPieces() {
        about = "promise 14";
        OneHead x = of(SMALL);
        due("all(0)", x.all(0), 17);
        due("all(1)", x.all(1), 17);
        due("all(2)", x.all(2), RANGE);
        due("all(-1)", x.all(-1), RANGE);
        OneHead swap = of("person a 1;person b 1;meet a b 1;news a b 9 5;news b a 9 3;");
        due("two full heads", swap.all(0), 0);
        due("each alone", swap.all(1), 8);
        OneHead room = of("person a 1;person b 2;meet a b 1;news a b 9 5;news b a 9 3;");
        due("a little room", room.all(0), 8);
        OneHead turns = of("person a 2;person b 2;meet a b 1;news a b 2 1;news a b 2 2;news b a 2 4;");
        due("turn by turn", turns.all(0), 7);
        OneHead narrow = of("person a 2;person b 1;person c 2;meet a b 1;meet b c 2;news a c 23 5;news a c 23 9;");
        due("one a day", narrow.all(0), 9);
        due("both alone", narrow.all(1), 14);
        OneHead later = of("person a 2;person b 1;person c 2;meet a b 1;meet b c 2;news a c 47 5;news a c 23 9;");
        due("one each day", later.all(0), 14);
        OneHead byChance = of("person a 1;person b 1;meet a b 1 chance 9;news a b 95 5;");
        due("not by chance", byChance.all(0) + byChance.all(1), 0);
        OneHead gone = of("person a 1;person b 1;person c 1;meet a b 1;meet b c 3;news a b 1 5;news c b 3 4;");
        due("told on behind its hour", gone.all(0), 5);
        OneHead passed = of("person a 1;person b 1;person c 1;person d 1;meet a b 1;meet b d 2;meet b c 3;"
                + "news a b 1 5;news c b 3 4;");
        due("told on to make room", passed.all(0), 9);
        OneHead edge = of("person a 1;person b 1;meet a b 5;news a b 4 5;");
        due("an hour late", edge.all(0) + edge.all(1), 0);
        OneHead just = of("person a 1;person b 1;meet a b 5;news a b 5 5;");
        due("just in time", just.all(0) + just.all(1), 10);
    }

    private static void together() {
        about = "promise 15";
        OneHead x = of(SMALL);
        due("together(3, 1)", x.together(3, 1), 0);
        due("together(3, 0)", x.together(3, 0), NONE);
        due("together(1, 0)", x.together(1, 0), STATE);
        due("together(2, 2)", x.together(2, 2), 2);
        due("together(0, 0)", x.together(0, 0), RANGE);
        due("together(4, 0)", x.together(4, 0), RANGE);
        due("together(-1, 0)", x.together(-1, 0), RANGE);
        due("together(1, 3)", x.together(1, 3), RANGE);
        due("together(1, -1)", x.together(1, -1), RANGE);
        OneHead parts = of("person a 1;person b 1;person c 3;meet a c 1;meet b c 2;news a b 9 1;news b a 9 1;");
        due("parts that come together", parts.together(3, 2), 1);
        OneHead full = of("person a 1;person b 1;person c 1;meet a b 1;meet b c 2;news a c 9 1;news b a 9 1;");
        due("the others are in the way", full.together(1, 1), 2);
    }

    private static void replies() {
        about = "promise 16";
        OneHead x = of(SMALL);
        due("reply 012", reply(x, "012", 0), 3);
        due("count(1)", x.count(1), 0);
        due("reply 010", reply(x, "010", 0), 3);
        due("that time too", reply(x, "01", 3), 3);
        due("reply 01 from 4", reply(x, "01", 4), 6);
        due("no meeting", reply(x, "02", 0), NONE);
        due("too late", reply(x, "01", 10), NONE);
        due("at the end", reply(x, "01", 12), NONE);
        due("one alone", reply(x, "0", 0), NONE);
        due("empty", reply(x, "", 0), NONE);
        due("the same twice", reply(x, "0011", 0), NONE);
        due("no such person", reply(x, "03", 0), NONE);
        due("a blank", reply(x, "0 1", 0), NONE);
        due("time 13", reply(x, "01", 13), RANGE);
        due("count(1)", x.count(1), 0);
        due("time -1", reply(x, "01", -1), RANGE);
        OneHead y = of("person a 1;person b 1;meet a b 1 chance 9;");
        due("not by chance", reply(y, "01", 0), NONE);
    }

    private static void rings() {
        about = "promise 17";
        OneHead x = of("person a 1 dies 100;person b 1;person c 1 dies 1;person d 1 dies 500;");
        due("ring(0)", ring(x, "0", 0), 1000000);
        due("ring(1)", ring(x, "0", 1), 900000);
        due("ring(2)", ring(x, "02", 2), 899100);
        due("ring(3)", ring(x, "20", 3), 898200);
        due("cut once", ring(x, "2", 3), 997002);
        due("cut once", ring(x, "2", 400), 670185);
        due("nobody dies", ring(x, "1", 400), 1000000);
        due("long", ring(x, "3", 19), 1);
        due("longer", ring(x, "3", 20), 0);
        due("longest", ring(x, "3", 400), 0);
        due("half of the days", ring(x, "13", 38), 1);
        due("count(1)", x.count(1), 0);
        due("empty", ring(x, "", 1), NONE);
        due("twice", ring(x, "010", 1), NONE);
        due("no such person", ring(x, "4", 1), NONE);
        due("no person", ring(x, "/", 1), NONE);
        due("d 401", ring(x, "0", 401), RANGE);
        due("count(1)", x.count(1), 0);
        due("d -1", ring(x, "0", -1), RANGE);
        about = "promise 18";
        due("bestRing(1)", x.bestRing(1), 2);
        due("bestRing(2)", x.bestRing(2), 6);
        due("bestRing(3)", x.bestRing(3), 7);
        due("bestRing(4)", x.bestRing(4), 15);
        due("bestRing(5)", x.bestRing(5), RANGE);
        due("bestRing(0)", x.bestRing(0), RANGE);
        OneHead y = of("person a 1 dies 5;person b 1 dies 5;person c 1 dies 4;person d 1 dies 5;"
                + "person e 1;person f 1;person g 1;");
        due("the least of alike ones", y.bestRing(5), 117);
        due("all seven", y.bestRing(7), 127);
    }

    private static void whereNow() {
        about = "promise 19";
        OneHead x = of(SMALL);
        due("where(0, 0, 0, 5, 0, 0)", x.where(0, 0, 0, 5, 0, 0), 1000000);
        due("where(0, 0, 0, 5, 1, 1)", x.where(0, 0, 0, 5, 1, 1), 500000);
        due("where(0, 0, 0, 5, 2, 2)", x.where(0, 0, 0, 5, 2, 2), 125000);
        due("where(0, 0, 0, 5, 3, 2)", x.where(0, 0, 0, 5, 3, 2), 250000);
        due("never told", x.where(0, 0, 0, 0, 12, 0), 1000000);
        due("always told", x.where(0, 0, 0, 10, 1, 1), 1000000);
        due("told back", x.where(0, 0, 2, 10, 4, 1), 1000000);
        due("z below t", x.where(0, 0, 2, 5, 1, 0), RANGE);
        due("z 13", x.where(0, 0, 2, 5, 13, 0), RANGE);
        due("t 12", x.where(0, 0, 12, 5, 12, 0), 1000000);
        due("t -1", x.where(0, 0, -1, 5, 2, 0), RANGE);
        due("u 11", x.where(0, 0, 0, 11, 2, 0), RANGE);
        due("u -1", x.where(0, 0, 0, -1, 2, 0), RANGE);
        due("person 3", x.where(0, 0, 0, 5, 2, 3), RANGE);
        due("from 3", x.where(0, 3, 0, 5, 2, 0), RANGE);
        due("news 2", x.where(2, 0, 0, 5, 2, 0), RANGE);
        OneHead y = of(THREE + "meet a b 1 chance 3;meet b c 2;news a c 9 1;bar b 0;");
        due("barred", y.where(0, 0, 0, 10, 8, 0), 1000000);
        due("from the barred", y.where(0, 1, 0, 10, 2, 2), 700000);
        OneHead z = of("person a 1;person b 1;meet a b 1 chance 3;news a b 9 1;");
        // twice 0.21: 0.79^2 + 0.21^2
        due("cut once", z.where(0, 0, 0, 7, 2, 0), 668200);
        // (1 + 0.58^3) / 2 = 0.597556
        due("three times", z.where(0, 0, 0, 7, 3, 0), 597556);
        about = "promise 20";
        due("ask(0, 0, 0, 5, 1)", x.ask(0, 0, 0, 5, 1), 0);
        due("ask(0, 0, 0, 5, 0)", x.ask(0, 0, 0, 5, 0), 0);
        due("ask(0, 2, 0, 0, 5)", x.ask(0, 2, 0, 0, 5), 2);
        due("ask(0, 0, 0, 9, 2)", x.ask(0, 0, 0, 9, 2), 1);
        due("alike ones", x.ask(0, 1, 2, 5, 3), 1);
        due("z below t", x.ask(0, 0, 3, 5, 2), RANGE);
        due("z 13", x.ask(0, 0, 3, 5, 13), RANGE);
        due("u 11", x.ask(0, 0, 0, 11, 2), RANGE);
        due("news -1", x.ask(-1, 0, 0, 5, 2), RANGE);
        due("from -1", x.ask(0, -1, 0, 5, 2), RANGE);
        OneHead w = of("person a 1;person b 1;" + "meet a b 1 chance 9;".repeat(16) + "news a b 9 1;");
        // a: (1 + 0.82^64) / 2, only a little above a half
        due("a is likelier by little", w.ask(0, 1, 0, 1, 64), 1);
        due("millionths of both", w.where(0, 1, 0, 1, 64, 1) - w.where(0, 1, 0, 1, 64, 0), 3);
    }

    private static void fights() {
        about = "promise 21";
        OneHead x = of(SMALL);
        due("fight of none", fight(x, "", 0), 0);
        about = "promise 22";
        due("believe(0)", x.believe(0), 1);
        due("believe(1)", x.believe(1), 0);
        due("believe(2)", x.believe(2), NONE);
        due("believe(-1)", x.believe(-1), NONE);
        about = "promise 21";
        due("the false one sent after", fight(x, "0 0;1 0;3 1;", 0), 3);
        about = "promise 22";
        due("believe(0)", x.believe(0), 5);
        due("believe(1)", x.believe(1), 2);
        about = "promise 21";
        due("it can't be", fight(x, "0 0;1 1;", 0), -2);
        due("ahead of the one before", fight(x, "3 0;0 1;", 0), -2);
        due("no such time", fight(x, "12 0;", 0), -1);
        due("no third one", fight(x, "0 2;", 0), -1);
        about = "promise 22";
        due("believe(0) stays", x.believe(0), 5);
        about = "promise 21";
        due("no row", fight(x, "0 0", 0), -1000);
        due("count(1)", x.count(1), 0);
        due("no such person", fight(x, "0 0;", 3), -2000);
        due("no such person", fight(x, "0 0;", -1), -2000);
        due("count(1)", x.count(1), 0);
        due("both at once, over full heads", fight(x, "0 1;0 0;2 1;2 0;", 0), 4);
        about = "promise 22";
        due("the last one counts", x.believe(0), 7);
        due("believe(1)", x.believe(1), 0);
        fight(x, "0 1;0 1;", 0);
        due("the first one too, when one comes to him", x.believe(1), 3);
        due("believe(0)", x.believe(0), 0);
        due("no fight", of(SMALL).believe(0), NONE);
        OneHead barred = of(THREE + "meet a b 1;news a c 9 1;bar b 0;");
        about = "promise 21";
        due("nobody is barred", fight(barred, "0 0;", 0), 1);
    }

    private static void rules() {
        about = "promise 23";
        OneHead x = of(SMALL);
        due("any at first", x.rule(0, 0, -5), 3);
        due("rule(0, 1, 2)", x.rule(0, 1, 2), 0);
        due("rule(0, 5, 99)", x.rule(0, 5, 99), 1);
        due("rule(0, 1, 3)", x.rule(0, 1, 3), RANGE);
        due("rule(0, 1, -1)", x.rule(0, 1, -1), RANGE);
        due("rule(0, 6, 0)", x.rule(0, 6, 0), RANGE);
        due("rule(0, -1, 0)", x.rule(0, -1, 0), RANGE);
        due("rule(3, 0, 0)", x.rule(3, 0, 0), RANGE);
        due("it is still best", x.rule(0, 3, 0), 5);
        String way = "person a 1;person b 1;person c 1;person d 1;meet a b 1;meet b a 2;meet b c 3;meet c d 4;news a d 95 1;";
        due("any", afterDay(way, 3, 0, 4), 3);
        due("nobody", afterDay(way, 0, 0, 4), 0);
        due("told c", afterDay(way, 1, 2, 4), 0);
        due("told b", afterDay(way, 1, 1, 1), 1);
        due("near", afterDay(way, 2, 0, 4), 3);
        due("near, not back", afterDay(way, 2, 0, 2), 1);
        due("back", afterDay(way, 4, 0, 4), 0);
        due("best, while he can as well", afterDay(way, 5, 0, 12), 0);
        due("best on the last day", afterDay(way, 5, 0, 16), 3);
        String hasty = way.replace("95", "4");
        due("best, not yet", afterDay(hasty, 5, 0, 1), 0);
        due("best, now or never", afterDay(hasty, 5, 0, 2), 1);
        due("best to the end", afterDay(hasty, 5, 0, 4), 3);
        OneHead back = of(way);
        back.rule(1, 4, 0);
        back.begin(1);
        back.go(2);
        due("b tells it back", back.now(0, 0), 0);
    }

    /** Where news 0 is when all but who it is for have the same rule. */
    private static int afterDay(String village, int kind, int k, int times) {
        OneHead x = of(village);
        x.rule(0, kind, k);
        x.rule(1, kind, k);
        x.rule(2, kind, k);
        if (kind == 3) {
            x.rule(1, 1, 2);
        }
        x.begin(7);
        x.go(times);
        return x.now(0, 0);
    }

    private static void runs() {
        about = "promise 24";
        OneHead x = of(SMALL);
        due("begin(-1)", x.begin(-1), RANGE);
        due("go(0)", x.go(0), STATE);
        due("begin(0)", x.begin(0), 1);
        due("begin(2147483647)", x.begin(2147483647), 1);
        about = "promise 25";
        due("go(65)", x.go(65), RANGE);
        due("go(-1)", x.go(-1), RANGE);
        due("go(13)", x.go(13), RANGE);
        due("go(0)", x.go(0), 0);
        due("go(5)", x.go(5), 5);
        due("go(8)", x.go(8), RANGE);
        due("go(7)", x.go(7), 12);
        due("go(1)", x.go(1), RANGE);
        due("go(0)", x.go(0), 12);
        about = "promise 26";
        OneHead y = of("person a 1;person b 2;person c 1;meet a b 8;meet b c 20;news a c 30 10;news b a 20 7;");
        due("no run", y.now(0, 0), NONE);
        y.begin(1);
        due("now(0, 0)", y.now(0, 0), 0);
        due("now(0, 1)", y.now(0, 1), 0);
        due("now(0, 2)", y.now(0, 2), NONE);
        y.go(1);
        // a tells 0 first, so there is room for b to tell 1
        due("with b", y.now(0, 0), 1);
        due("with a", y.now(1, 0), 0);
        due("came to a", y.now(1, 2), 0);
        y.go(1);
        due("with c", y.now(0, 0), 2);
        due("told twice", y.now(0, 1), 2);
        due("came to c", y.now(0, 2), 1);
        y.go(6);
        due("whom it is for keeps it", y.now(0, 0) * 10 + y.now(0, 1), 22);
        due("now(0, 3)", y.now(0, 3), RANGE);
        due("now(0, -1)", y.now(0, -1), RANGE);
        due("now(2, 0)", y.now(2, 0), RANGE);
        about = "promise 27";
        due("no run", x.head(0, 0) >= 0 ? of(SMALL).head(0, 0) : 0, NONE);
        due("head(0, 0)", y.head(0, 0), 1);
        due("head(1, 0)", y.head(1, 0), 0);
        due("head(1, 1)", y.head(1, 1), 1);
        due("head(3, 0)", y.head(3, 0), RANGE);
        due("head(-1, 0)", y.head(-1, 0), RANGE);
        due("head(0, 2)", y.head(0, 2), RANGE);
        seeds();
    }

    /** A run reckoned here by the document's words: which meetings come about, who dies. */
    private static void seeds() {
        about = "promise 25";
        for (int seed = 0; seed < 40; seed++) {
            OneHead x = of("person a 1;person b 1 dies 300;person c 1 dies 1;meet a b 1 chance 4;news a b 95 1;");
            x.begin(seed);
            long s = seed;
            int with = 0;
            boolean[] lives = {true, true, true};
            int[] dies = {0, 300, 1};
            for (int day = 0; day < 4; day++) {
                s = (1103515245L * s + 12345) % 2147483648L;
                if (s / 65536 % 10 < 4 && lives[1] && with == 0) {
                    with = 1;
                }
                for (int p = 0; p < 3; p++) {
                    if (lives[p]) {
                        s = (1103515245L * s + 12345) % 2147483648L;
                        if (s / 65536 % 1000 < dies[p]) {
                            lives[p] = false;
                            with = with == p ? NONE : with;
                        }
                    }
                }
                x.go(1);
                due("seed " + seed + " day " + day + ": now(0, 0)", x.now(0, 0), with);
                due("seed " + seed + " day " + day + ": head(1, 1)", x.head(1, 1), lives[1] ? 1 : 0);
                due("seed " + seed + " day " + day + ": head(2, 1)", x.head(2, 1), lives[2] ? 1 : 0);
            }
        }
    }

    private static void slots() {
        about = "promise 28";
        OneHead x = of(SMALL);
        due("keep(0)", x.keep(0), STATE);
        due("keep(3)", x.keep(3), RANGE);
        x.begin(5);
        x.go(4);
        due("keep(0)", x.keep(0), 4);
        due("keep(3)", x.keep(3), RANGE);
        due("keep(-1)", x.keep(-1), RANGE);
        about = "promise 29";
        due("take(1)", x.take(1), STATE);
        due("take(3)", x.take(3), RANGE);
        due("take(-1)", x.take(-1), RANGE);
        String first = goOn(x);
        due("take(0)", x.take(0), 4);
        due("it goes on as before", goOn(x).equals(first) ? 1 : 0, 1);
        x.begin(6);
        due("take(0) again", x.take(0), 4);
        due("it is still kept", goOn(x).equals(first) ? 1 : 0, 1);
        about = "promise 28";
        x.begin(9);
        due("keep(0) anew", x.keep(0), 0);
        due("take(0)", x.take(0), 0);
    }

    private static String goOn(OneHead x) {
        StringBuilder s = new StringBuilder();
        while (x.go(1) >= 0) {
            for (int what = 0; what < 3; what++) {
                s.append(x.now(0, what)).append(' ').append(x.now(1, what)).append(' ').append(x.head(what, 1)).append(' ');
            }
        }
        return s.toString();
    }

    private static void counts() {
        about = "promise 30";
        OneHead x = of(SMALL);
        due("count(0)", x.count(0), 8);
        due("count(1)", x.count(1), 0);
        say(x, "abc");
        due("count(1)", x.count(1), 3);
        due("count(2)", x.count(2), NONE);
        due("count(-1)", x.count(-1), NONE);
    }
}
