/** The tape, tokens, clauses and what a village tells: Terms I, promises 1 to 8 and 30. */
final class EdgesOfTexts extends Sentences {
    private static final String PAIR = "person a 3;person b 3;";
    /** PAIR has 22 bytes, so what is told behind it begins at place 22. */
    private static final int BEHIND_PAIR = 22;

    private EdgesOfTexts() {
    }

    static void all() {
        newObject();
        feed();
        end();
        emptiedByReading();
        leftAloneByOthers();
        blanks();
        words();
        numbers();
        clauses();
        grammar();
        people();
        meetings();
        news();
        bars();
        numbering();
        village();
        faultCalls();
        told();
        meetingCalls();
        times();
        count();
        calls512();
    }

    private static void feedBlanks(OneHead x, int times) {
        for (int i = 0; i < times; i++) {
            x.feed(0x20202020, 0x20202020, 0x20202020, 0x20202020, 0x20202020);
        }
    }

    private static void newObject() {
        sentence("A VILLAGE of which nothing is told; no RUN.");
        OneHead other = of(PAIR + "meet a b 1;news a b 2 3;");
        other.begin(1);
        other.keep(0);
        OneHead x = new OneHead();
        for (int what = 0; what < 4; what++) {
            due("told(" + what + ")", x.told(what), 0);
        }
        for (int what = 10; what < 80; what += 10) {
            due("told(" + what + ")", x.told(what), NONE);
        }
        due("meeting(0, 0)", x.meeting(0, 0), RANGE);
        due("time(0, 0)", x.time(0, 0), RANGE);
        due("count(0)", x.count(0), 0);
        due("count(1)", x.count(1), 0);
        due("all(0)", x.all(0), 0);
        due("all(1)", x.all(1), 0);
        due("go(0)", x.go(0), STATE);
        due("keep(0)", x.keep(0), STATE);
        for (int slot = 0; slot < 3; slot++) {
            due("take(" + slot + ")", x.take(slot), STATE);
        }
        due("believe(0)", x.believe(0), NONE);
        due("the empty tape is a row", x.judge(), 0);
        due("the empty tape is a village", x.village(), 0);
        due("begin(0)", x.begin(0), 1);
        due("go(0)", x.go(0), 0);
        due("the other one's people", other.told(0), 2);
    }

    private static void feed() {
        sentence("Twenty bytes come behind THE TAPE, the highest of each int first: how many it has");
        OneHead x = new OneHead();
        // "person abcdefgh 1 ; " in twenty bytes, then a fault at 27
        due("feed", x.feed(0x70657273, 0x6f6e2061, 0x62636465, 0x66676820, 0x31203b20), 20);
        due("feed", x.feed(0x70657273, 0x6f6e2062, 0x20332064, 0x69657320, 0x3939203b), 40);
        due("count(1)", x.count(1), 40);
        due("village()", x.village(), 2);
        due("told(10)", x.told(10), 1);
        due("told(11)", x.told(11), 3);
        due("told(21)", x.told(21), 99);
        // a byte above 127 in each place of each int
        for (int i = 0; i < 20; i++) {
            int[] five = {0x20202020, 0x20202020, 0x20202020, 0x20202020, 0x20202020};
            five[i / 4] |= 0xff << 24 - i % 4 * 8;
            x.feed(five[0], five[1], five[2], five[3], five[4]);
            due("village()", x.village(), NONE);
            due("fault(1)", x.fault(1), i);
        }

        sentence("FULL when there would be more than 900.");
        for (int i = 1; i <= 45; i++) {
            due("feed", x.feed(0, 0, 0, 0, 0), 20 * i);
        }
        due("feed at 900", x.feed(0, 0, 0, 0, 0), FULL);
        due("count(1)", x.count(1), 900);
        x.end(881);
        due("feed at 881", x.feed(0, 0, 0, 0, 0), FULL);
        due("count(1)", x.count(1), 881);
        x.end(880);
        due("feed at 880", x.feed(0, 0, 0, 0, 0), 900);
        x.end(899);
        due("feed at 899", x.feed(0, 0, 0, 0, 0), FULL);
        x.end(0);
        say(x, "person a 1;" + " ".repeat(878));
        due("feed at 889", x.feed(0x3b3b3b3b, 0, 0, 0, 0), FULL);
        due("nothing came behind it", x.village(), 1);

        sentence("THE TAPE has at most 900 bytes");
        due("a clause up to the last byte", tellVillage(x, " ".repeat(889) + "person a 1;"), 1);
        due("told(0)", x.told(0), 1);
        due("a village of 900 blanks", tellVillage(x, " ".repeat(900)), 0);
        dueFault(" ".repeat(890) + "person a 1", 1, 900);
        dueFault(" ".repeat(899) + ";", 1, 899);
        due("a row of 225 tellings", judge(x, "0 0;".repeat(225)), -1);
        due("a way of 900 people", reply(of(PAIR + "meet a b 1;"), "01".repeat(450), 0), NONE);
    }

    private static void end() {
        sentence("THE TAPE has its first n bytes alone: n");
        OneHead x = new OneHead();
        due("end(0)", x.end(0), 0);
        say(x, "person a 1;person b 1;");
        due("end(22)", x.end(22), 22);
        due("count(1)", x.count(1), 22);
        due("end(11)", x.end(11), 11);
        due("count(1)", x.count(1), 11);
        due("village()", x.village(), 1);
        say(x, "person a 1;;;;;;;;;;");
        due("end(11)", x.end(11), 11);
        // "person b 2;" and blanks come behind the eleven bytes
        due("feed", x.feed(0x70657273, 0x6f6e2062, 0x20323b20, 0x20202020, 0x20202020), 31);
        due("village()", x.village(), 2);
        due("told(11)", x.told(11), 2);
        feedBlanks(x, 45);
        due("end(900)", x.end(900), 900);
        due("end(899)", x.end(899), 899);
        due("end(0)", x.end(0), 0);
        due("count(1)", x.count(1), 0);

        sentence("NONE when it has not so many, or n is below 0.");
        due("end(1) of none", x.end(1), NONE);
        due("end(-1) of none", x.end(-1), NONE);
        feedBlanks(x, 1);
        due("end(21)", x.end(21), NONE);
        due("end(-1)", x.end(-1), NONE);
        due("end(900)", x.end(900), NONE);
        due("end(2147483647)", x.end(Integer.MAX_VALUE), NONE);
        due("end(-2147483648)", x.end(Integer.MIN_VALUE), NONE);
        due("it has as many as before", x.count(1), 20);
        due("end(7)", x.end(7), 7);
        due("what was cut off is gone", x.end(8), NONE);
        due("count(1)", x.count(1), 7);
        x.end(0);
        feedBlanks(x, 45);
        due("end(901)", x.end(901), NONE);
        due("count(1)", x.count(1), 900);
    }

    private static void dueEmpty(OneHead x, String call, int got, int want) {
        due(call, got, want);
        due("count(1) behind " + call, x.count(1), 0);
        due("end(1) behind " + call, x.end(1), NONE);
    }

    private static void emptiedByReading() {
        sentence("each call that reads it empties it, whatever it tells.");
        OneHead x = of(PAIR + "meet a b 1;news a b 2 3;");
        dueEmpty(x, "judge(), right", judge(x, "0 0;"), 1);
        dueEmpty(x, "judge(), wrong", judge(x, "0 1;"), -1);
        dueEmpty(x, "judge(), no row", judge(x, "0 0"), NO_ROW);
        dueEmpty(x, "fight(0), right", fight(x, "0 0;", 0), 1);
        dueEmpty(x, "fight(0), wrong", fight(x, "0 2;", 0), -1);
        dueEmpty(x, "fight(0), no row", fight(x, "0 0", 0), NO_ROW);
        dueEmpty(x, "fight(2)", fight(x, "0 0;", 2), NO_PERSON);
        dueEmpty(x, "reply(0)", reply(x, "01", 0), 0);
        dueEmpty(x, "reply(4), never", reply(x, "01", 4), NONE);
        dueEmpty(x, "reply(0), no row", reply(x, "0", 0), NONE);
        dueEmpty(x, "reply(5)", reply(x, "01", 5), RANGE);
        dueEmpty(x, "ring(1)", ring(x, "01", 1), 1000000);
        dueEmpty(x, "ring(1), no row", ring(x, "00", 1), NONE);
        dueEmpty(x, "ring(401)", ring(x, "01", 401), RANGE);
        dueEmpty(x, "village() with a fault", tellVillage(x, "person a 0;"), NONE);
        dueEmpty(x, "village()", tellVillage(x, "person a 1;"), 1);
        // what was read stays read: the next call finds an empty tape
        dueEmpty(x, "village() of nothing", x.village(), 0);
    }

    private static void leftAloneByOthers() {
        OneHead x = of(PAIR + "meet a b 1;news a b 2 3;");
        say(x, "0 0;");
        x.fault(0);
        x.told(0);
        x.meeting(0, 0);
        x.time(0, 0);
        x.judged(0, 0);
        x.soon(0, 0, 1, 0);
        x.surest(0, 0, 1, 0, 9, 0);
        x.bars(0, 0, 1, 0);
        x.all(0);
        x.all(1);
        x.together(1, 1);
        x.bestRing(1);
        x.where(0, 0, 0, 5, 1, 1);
        x.ask(0, 0, 0, 5, 1);
        x.believe(0);
        x.rule(0, 5, 0);
        x.begin(1);
        x.go(1);
        x.now(0, 0);
        x.head(0, 0);
        x.keep(0);
        x.take(0);
        x.count(1);
        due("count(1) behind calls that don't read it", x.count(1), 4);
        due("judge() of what stood there", x.judge(), 1);
    }

    private static void blanks() {
        sentence("TOKENS with any blanks (32, 10) between");
        OneHead x = new OneHead();
        due("none where none is needed", tellVillage(x, "person a1dies5;person b2;meet a b08chance1;"), 3);
        due("many", tellVillage(x, "  \n\nperson \n a\n\n1  dies\n5 \n; \n "), 1);
        due("told(20)", x.told(20), 5);
        due("tellings without", judge(of(PAIR + "meet a b 1;news a b 2 3;"), "0 0;0\n0;"), 2);
        for (int sign : new int[] {0, 9, 11, 13, 31, 33, 95, 127, 128, 160, 255}) {
            dueFault("person" + (char) sign + "a 1;", 1, 6);
            dueFault("person a 1;" + (char) sign, 1, 11);
            due("a row with byte " + sign, judge(x, "0" + (char) sign + "0;"), NO_ROW);
        }
    }

    private static void words() {
        sentence("WORDS (small letters, as many as there are, 8 at most)");
        OneHead x = new OneHead();
        due("eight letters", tellVillage(x, "person abcdefgh 1;person abcdefgi 1;meet abcdefgh abcdefgi 1;"), 3);
        due("the first and the last letter", tellVillage(x, "person az 1;person za 1;person zzzzzzzz 1;"), 3);
        due("a word and more of it", tellVillage(x, "person a 1;person aa 1;person aaaaaaaa 1;"), 3);
        for (char one = 'a'; one < 'z'; one++) {
            for (char another = (char) (one + 1); another <= 'z'; another++) {
                String two = "person b" + one + " 1;person b" + another + " 1;person " + one + "b 1;";
                due("village() of \"" + two + "\"", tellVillage(new OneHead(), two), one == 'b' ? NONE : 3);
            }
        }
        dueFault("person abcdefgh 1;person abcdefgh 1;", 3, 25);
        dueFault("person abcdefghi 1;", 1, 7);
        dueFault("person a 1;person b 1;meet a bcdefghij 1;", 1, 29);
        dueFault("persona 1;", 1, 0);
        dueFault("perso n a 1;", 1, 0);
        dueFault("personpersonperson a 1;", 1, 0);
        dueFault("person a 1 diesdies 5;", 1, 11);
        for (char sign : new char[] {'A', 'Z', '`', '{', '@', '['}) {
            dueFault("person " + sign + " 1;", 1, 7);
            dueFault("person a" + sign + " 1;", 1, 8);
        }
        dueFault("Person a 1;", 1, 0);
    }

    private static void numbers() {
        sentence("N (digits, as many as there are, 3 at most)");
        OneHead x = new OneHead();
        due("three digits", tellVillage(x, "person a 003 dies 019;"), 1);
        due("told(10)", x.told(10), 3);
        due("told(20)", x.told(20), 19);
        due("000", tellVillage(x, PAIR + "meet a b 000;news a b 000 000;"), 4);
        dueFault("person a 0001;", 1, 9);
        dueFault("person a 1 dies 0000;", 1, 16);
        dueFault("person a 1 dies 1000;", 1, 16);
        dueFault("person a 12;", 2, 9);
        dueFault("person a 1 2;", 1, 11);
        dueFault("person a /;", 1, 9);
        dueFault("person a :;", 1, 9);
        dueFault("person a 1/;", 1, 10);
        dueFault("person a 1:;", 1, 10);
        dueFault("person a -1;", 1, 9);
        OneHead y = of(PAIR + "meet a b 1;news a b 2 3;");
        due("a row with 000", judge(y, "000 000;"), 1);
        due("a row with 0000", judge(y, "0000 0;"), NO_ROW);
        due("a row with 00", judge(y, "00;"), NO_ROW);
        due("a row with 0000 behind", judge(y, "0 0000;"), NO_ROW);
    }

    private static void clauses() {
        sentence("A VILLAGE is a text = {clause \";\"}.");
        OneHead x = new OneHead();
        due("no clause", tellVillage(x, ""), 0);
        due("one clause", tellVillage(x, "person a 1;"), 1);
        due("two clauses", tellVillage(x, "person a 1;person b 1;"), 2);
        dueFault(";", 1, 0);
        dueFault(" ;", 1, 1);
        dueFault("person a 1", 1, 10);
        dueFault("person a 1;;", 1, 11);
        dueFault("person a 1 person b 1;", 1, 11);
        dueFault("1", 1, 0);
        String most = PAIR + "person c 3;person d 3;person e 3;person f 3;person g 3;"
                + "meet a b 1;".repeat(16) + "news a b 1 1;news a b 1 1;news a b 1 1;news b a 1 1;"
                + "bar c 0;bar d 0;bar e 0;bar f 0;bar g 0;bar b 0;";
        due("clauses of all kinds", tellVillage(x, most), 33);
        due("count(0)", x.count(0), 33);
    }

    /** Puts each kind of token, and the text's end, in each place of a clause where it can't stand. */
    private static void grammar() {
        sentence("clause = \"person\" W N [\"dies\" N] | \"meet\" W W N [\"chance\" N] | \"news\" W W N N "
                + "| \"bar\" W N.");
        String ahead = PAIR + "news a b 9 1;";
        wrongTokens(ahead, new String[] {"person", "c", "2", "dies", "5", ";"}, "KWNSN;");
        wrongTokens(ahead, new String[] {"person", "c", "2", ";"}, "KWNS");
        wrongTokens(ahead, new String[] {"meet", "a", "b", "2", "chance", "5", ";"}, "KWWNSN;");
        wrongTokens(ahead, new String[] {"meet", "a", "b", "2", ";"}, "KWWNS");
        wrongTokens(ahead, new String[] {"news", "a", "b", "2", "5", ";"}, "KWWNN;");
        wrongTokens(ahead, new String[] {"bar", "b", "0", ";"}, "KWN;");
        dueFault(ahead + "person c 2 chance 5;", 1, 46);
        dueFault(ahead + "meet a b 2 dies 5;", 1, 46);
        dueFault(ahead + "person c 2 dies 5 dies 5;", 1, 53);
        dueFault(ahead + "meet a b 2 chance 5 chance 5;", 1, 55);
        dueFault(ahead + "dies 5;", 1, 35);
    }

    /** K a clause's first word or the end, W a word, N a number, ; one, S that or a second word. */
    private static void wrongTokens(String ahead, String[] tokens, String kinds) {
        String text = ahead;
        for (int i = 0; i < tokens.length; i++) {
            char kind = kinds.charAt(i);
            if (kind == 'K') {
                due("village() of \"" + text + "\"", tellVillage(new OneHead(), text), 3);
            } else {
                dueFault(text, 1, text.length());
                dueFault(text + " ", 1, text.length() + 1);
            }
            if (kind != 'W') {
                dueFault(text + " zz ", 1, text.length() + 1);
            }
            if (kind != 'N') {
                dueFault(text + " 1 ", 1, text.length() + 1);
            }
            if (kind == 'W' || kind == 'N' || kind == 'K') {
                dueFault(text + " ; ", 1, text.length() + 1);
            }
            dueFault(text + " ! ", 1, text.length() + 1);
            text += " " + tokens[i];
        }
        due("village() of \"" + text + "\"", tellVillage(new OneHead(), text), 4);
    }

    private static String names(int n) {
        StringBuilder s = new StringBuilder();
        for (int i = 0; i < n; i++) {
            s.append("person ").append((char) ('a' + i)).append(" 1;");
        }
        return s.toString();
    }

    private static void people() {
        sentence("person: a name, how many pieces it holds 1 .. 3, of a thousand days on how many it dies "
                + "0 .. 500 (0)");
        for (int holds = 1; holds <= 3; holds++) {
            OneHead x = of("person a " + holds + ";");
            due("told(10)", x.told(10), holds);
            due("told(20) where it isn't told", x.told(20), 0);
        }
        dueFault("person a 0;", 2, 9);
        dueFault("person a 4;", 2, 9);
        dueFault("person a 999;", 2, 9);
        due("dies 0", of("person a 1 dies 0;").told(20), 0);
        due("dies 1", of("person a 1 dies 1;").told(20), 1);
        due("dies 500", of("person a 1 dies 500;").told(20), 500);
        dueFault("person a 1 dies 501;", 2, 16);
        dueFault("person a 1 dies 999;", 2, 16);
        // a village told anew has nothing of the one before
        OneHead again = of("person a 3 dies 7;");
        tellVillage(again, "person a 1;");
        due("told(20) told anew", again.told(20), 0);

        sentence("at most 7 PEOPLE");
        due("seven", of(names(7)).told(0), 7);
        due("the seventh", of(names(7)).told(16), 1);
        dueFault(names(8), 4, 77);
        dueFault(names(7) + " person", 4, 78);
    }

    private static void meetings() {
        sentence("meet: two PEOPLE, unlike, an hour of each day 0 .. 23, in how many of ten days they do "
                + "1 .. 10 (10: SURELY)");
        due("hour 0", of(PAIR + "meet a b 0;").meeting(0, 2), 0);
        due("hour 23", of(PAIR + "meet a b 23;").meeting(0, 2), 23);
        dueFault(PAIR + "meet a b 24;", 2, BEHIND_PAIR + 9);
        dueFault(PAIR + "meet a b 95;", 2, BEHIND_PAIR + 9);
        due("chance 1", of(PAIR + "meet a b 0 chance 1;").meeting(0, 3), 1);
        due("chance 10", of(PAIR + "meet a b 0 chance 10;").meeting(0, 3), 10);
        due("no chance told", of(PAIR + "meet a b 0;").meeting(0, 3), 10);
        dueFault(PAIR + "meet a b 0 chance 0;", 2, BEHIND_PAIR + 18);
        dueFault(PAIR + "meet a b 0 chance 11;", 2, BEHIND_PAIR + 18);
        dueFault(PAIR + "meet a a 0;", 3, BEHIND_PAIR + 7);
        due("the second ahead of the first", of(PAIR + "meet b a 0;").meeting(0, 0), 1);
        String news = "news a b 0 5;";
        due("chance 10 is surely", of(PAIR + "meet a b 0 chance 10;" + news).soon(0, 0, 1, 0), 0);
        due("no chance told is surely", of(PAIR + "meet a b 0;" + news).soon(0, 0, 1, 0), 0);
        due("chance 9 is not", of(PAIR + "meet a b 0 chance 9;" + news).soon(0, 0, 1, 0), NONE);

        sentence("at most 16 MEETINGS");
        due("sixteen", of(PAIR + "meet a b 1;".repeat(16)).told(1), 16);
        dueFault(PAIR + "meet a b 1;".repeat(17), 4, BEHIND_PAIR + 176);
        dueFault(PAIR + "meet a b 1;".repeat(16) + "meet", 4, BEHIND_PAIR + 176);
    }

    private static void news() {
        sentence("news: from whom, for whom (unlike), by which HOUR 0 .. 95, WORTH 0 .. 99");
        OneHead least = of(PAIR + "news a b 0 0;");
        due("HOUR 0", least.told(50), 0);
        due("WORTH 0", least.told(60), 0);
        OneHead most = of(PAIR + "news b a 95 99;");
        due("HOUR 95", most.told(50), 95);
        due("WORTH 99", most.told(60), 99);
        due("from", most.told(30), 1);
        due("for", most.told(40), 0);
        dueFault(PAIR + "news a b 96 1;", 2, BEHIND_PAIR + 9);
        dueFault(PAIR + "news a b 999 1;", 2, BEHIND_PAIR + 9);
        dueFault(PAIR + "news a b 95 100;", 2, BEHIND_PAIR + 12);
        dueFault(PAIR + "news a a 95 1;", 3, BEHIND_PAIR + 7);

        sentence("at most 4 NEWS");
        String four = PAIR + "news a b 1 1;news a b 1 1;news b a 1 1;news b a 1 1;";
        due("four", of(four).told(2), 4);
        dueFault(four + "news a b 1 1;", 4, 74);
        dueFault(four + "news", 4, 74);
    }

    private static void bars() {
        sentence("bar: a PERSON may not hold the NEWS of that number, told ahead.");
        String three = PAIR + "person c 1;";
        OneHead x = of(three + "news a b 1 1;news b a 1 1;bar c 1;bar b 0;bar c 0;");
        due("told(70)", x.told(70), 6);
        due("told(71)", x.told(71), 4);
        dueFault(three + "bar c 0;news a b 1 1;", 2, 39);
        dueFault(three + "news a b 1 1;bar c 1;news a b 1 1;", 2, 52);
        due("none is barred anew", tellVillage(x, three + "news a b 1 1;"), 4);
        due("told(70) told anew", x.told(70), 0);
    }

    private static void numbering() {
        sentence("All are numbered from 0 as they come; PEOPLE's names are unlike; who is named is told ahead.");
        OneHead x = of("person b 2;person a 1;meet a b 9;news b a 5 6;person c 3;meet c a 8;news c b 7 8;");
        due("told(10)", x.told(10), 2);
        due("told(12)", x.told(12), 3);
        due("meeting(0, 0)", x.meeting(0, 0), 1);
        due("meeting(1, 0)", x.meeting(1, 0), 2);
        due("told(30)", x.told(30), 0);
        due("told(31)", x.told(31), 2);
        dueFault("person a 1;person b 1;person a 1;", 3, 29);
        dueFault("person a 1;meet a b 1;person b 1;", 5, 18);
        dueFault("person a 1;news b a 1 1;person b 1;", 5, 16);
        dueFault("person a 1;bar b 0;person b 1;", 5, 15);
        dueFault("meet a b 1;", 5, 5);
    }

    private static void village() {
        String small = PAIR + "person c 1;meet a b 1;news a b 2 3;news b c 2 3;";
        sentence("THE TAPE is a VILLAGE: how many clauses; NONE with a FAULT (it stays).");
        OneHead x = of(small);
        due("count(0)", x.count(0), 6);
        due("village() with a fault", tellVillage(x, "person z 1;person y 1;meet z"), NONE);
        due("its people", x.told(0), 3);
        due("its meetings", x.told(1), 1);
        due("its news", x.told(2), 2);
        due("its times", x.told(3), 4);
        due("its clauses", x.count(0), 6);
        due("told(10)", x.told(10), 3);
        due("soon(0, 0, 1, 0)", x.soon(0, 0, 1, 0), 0);
        due("all(0)", x.all(0), 3);
        due("its names are gone with the text", tellVillage(x, "person z 1;"), 1);
        due("the new one's people", x.told(0), 1);
        due("the new one's meetings", x.told(1), 0);
        due("the new one's news", x.told(2), 0);
        due("the new one's times", x.told(3), 0);
        due("the new one's worth", x.all(0), 0);
        OneHead less = new OneHead();
        for (int n = 6; n >= 0; n--) {
            String text = "person a 3;person b 3;" + "meet a b 1;".repeat(n) + "news a b 1 1;".repeat(n / 2);
            due("ever less is told", tellVillage(less, text), 2 + n + n / 2);
            due("meetings, ever less", less.told(1), n);
            due("news, ever less", less.told(2), n / 2);
            due("times, ever less", less.told(3), 4 * n);
            due("the first time that there isn't", less.time(4 * n, 0), RANGE);
        }
        nothingOfLargeOnes();

        sentence("RULES are ANY, there is no RUN, SLOTS are empty, what judge(), fight() told is gone.");
        OneHead y = of(small);
        for (int p = 0; p < 3; p++) {
            y.rule(p, 0, 0);
        }
        y.begin(5);
        for (int slot = 0; slot < 3; slot++) {
            y.keep(slot);
        }
        judge(y, "0 0;");
        fight(y, "0 0;", 0);
        due("told again", tellVillage(y, small), 6);
        due("judged(0, 0)", y.judged(0, 0), NONE);
        due("judged(0, 1)", y.judged(0, 1), NONE);
        due("believe(0)", y.believe(0), NONE);
        due("believe(1)", y.believe(1), NONE);
        due("go(0)", y.go(0), STATE);
        due("now(0, 0)", y.now(0, 0), NONE);
        due("head(0, 0)", y.head(0, 0), NONE);
        due("keep(0)", y.keep(0), STATE);
        for (int slot = 0; slot < 3; slot++) {
            due("take(" + slot + ")", y.take(slot), STATE);
        }
        for (int p = 0; p < 3; p++) {
            due("rule(" + p + ", 3, 0)", y.rule(p, 3, 0), 3);
        }
        y.begin(5);
        y.go(1);
        due("by ANY it is told", y.now(0, 0), 1);
        sayWhatAFaultLeaves(of(small));
    }

    /** A small village told behind two large ones: whatever held those, nothing of them may show. */
    private static OneHead behindLargeOnes(String small) {
        OneHead x = new OneHead();
        String large = PAIR + "person c 3;meet a b 0;" + "meet a b 5;".repeat(15)
                + "news a b 0 99;news b a 0 99;news a b 0 99;news b a 0 99;bar c 0;bar c 1;bar c 2;bar c 3;";
        due("a large one", tellVillage(x, large), 27);
        due("its worth", x.all(0) + x.all(1), 792);
        due("a large one again", tellVillage(x, large), 27);
        due("its worth again", x.all(0) + x.all(1), 792);
        due("a small one has no fault", tellVillage(x, small) > 0 ? 1 : 0, 1);
        return x;
    }

    private static void nothingOfLargeOnes() {
        OneHead none = behindLargeOnes(PAIR + "news a b 95 7;");
        due("no times: soon", none.soon(0, 0, 1, 0), NONE);
        due("no times: surest", none.surest(0, 0, 1, 0, 95, 0), 0);
        due("no times: bars", none.bars(0, 0, 1, 0), 0);
        due("no times: all(0)", none.all(0), 0);
        due("no times: all(1)", none.all(1), 0);
        due("no times: together", none.together(1, 1), NONE);
        due("no times: reply", reply(none, "01", 0), NONE);
        due("no times: judge", judge(none, "0 0;"), -1);
        due("no times: fight", fight(none, "0 0;", 0), -1);
        none.begin(1);
        due("no times: go", none.go(1), RANGE);
        OneHead same = behindLargeOnes(PAIR + "meet a b 0;news a b 95 0;");
        due("one news: all(0)", same.all(0), 0);
        due("one news: all(1)", same.all(1), 0);
        due("one news: together", same.together(2, 0), RANGE);
        OneHead few = behindLargeOnes(PAIR + "person c 3;meet a c 0;news a c 95 0;");
        due("four times: soon", few.soon(0, 0, 1, 0), NONE);
        due("four times: soon at the end", few.soon(0, 0, 2, 4), NONE);
        due("four times: reply", reply(few, "01", 0), NONE);
        due("four times: all(0)", few.all(0), 0);
        due("four times: all(1)", few.all(1), 0);
        due("four times: together", few.together(1, 1), NONE);
        due("four times: together, nobody is barred", few.together(1, 2), 0);
        due("four times: where", few.where(0, 0, 0, 10, 4, 1), 0);
        due("four times: judge", judge(few, "4 0;"), -1);
        due("four times: fight", fight(few, "4 0;", 0), -1);
        due("four times: told(71)", few.told(71), NONE);
        few.begin(1);
        few.go(4);
        due("four times: told once", few.now(0, 1), 1);
        due("four times: with c", few.now(0, 0), 2);
        due("four times: head", few.head(1, 0), 0);
    }

    /** The document says of a FAULT that it stays: so does what hangs on the village that stays. */
    private static void sayWhatAFaultLeaves(OneHead x) {
        x.rule(0, 0, 0);
        x.begin(5);
        x.go(2);
        x.keep(1);
        judge(x, "0 0;");
        fight(x, "0 1;", 0);
        due("village() with a fault", tellVillage(x, ";"), NONE);
        due("its rule", x.rule(0, 0, 0), 0);
        due("its run", x.go(0), 2);
        due("its slot", x.take(1), 2);
        due("judged(0, 0)", x.judged(0, 0), 1);
        due("believe(1)", x.believe(1), 2);
    }

    private static void faultCalls() {
        sentence("Of the latest village(), what 0: its FAULT's KIND, 0 without (and ahead of any), "
                + "1: its PLACE (NONE).");
        OneHead x = new OneHead();
        due("fault(0) ahead of any", x.fault(0), 0);
        due("fault(1) ahead of any", x.fault(1), NONE);
        tellVillage(x, "person a 9;");
        due("fault(0)", x.fault(0), 2);
        due("fault(1)", x.fault(1), 9);
        say(x, ";");
        x.judge();
        due("fault(0) is of village() alone", x.fault(0), 2);
        tellVillage(x, ";");
        due("fault(0) of the latest", x.fault(0), 1);
        due("fault(1) at the first byte", x.fault(1), 0);
        tellVillage(x, "");
        due("fault(0) without", x.fault(0), 0);
        due("fault(1) without", x.fault(1), NONE);

        sentence("1: its PLACE (NONE). NONE for another what.");
        tellVillage(x, "person a 9;");
        for (int what : new int[] {-1, 2, 3, Integer.MAX_VALUE, Integer.MIN_VALUE}) {
            due("fault(" + what + ")", x.fault(what), NONE);
        }
    }

    private static void told() {
        sentence("What 0: PEOPLE, 1: MEETINGS, 2: NEWS, 3: TIMES; 10 + p: how many PERSON p holds, 20 + p: on how many "
                + "days it dies, 30 + n: from whom NEWS n is, 40 + n: for whom, 50 + n: its HOUR, 60 + n: its WORTH, "
                + "70 + n: who is barred from it, as bits.");
        OneHead full = of("person a 3 dies 1;person b 3;person c 1;person d 1;person e 1;person f 1;person g 2 dies 9;"
                + "meet a b 1;news a b 1 2;news a c 3 4;news b g 5 6;news b a 95 99;bar g 3;bar c 3;");
        int[][] due = {{0, 7}, {1, 1}, {2, 4}, {3, 4}, {10, 3}, {16, 2}, {20, 1}, {26, 9}, {30, 0}, {33, 1},
            {40, 1}, {43, 0}, {50, 1}, {53, 95}, {60, 2}, {63, 99}, {70, 0}, {73, 68}};
        for (int[] d : due) {
            due("told(" + d[0] + ")", full.told(d[0]), d[1]);
        }
        sentence("70 + n: who is barred from it, as bits. NONE for others.");
        for (int what : new int[] {-1, -10, 4, 9, 17, 19, 27, 29, 34, 39, 44, 49, 54, 59, 64, 69, 74, 79, 80, 83,
            100, 110, Integer.MAX_VALUE, Integer.MIN_VALUE}) {
            due("told(" + what + ")", full.told(what), NONE);
        }
        OneHead one = of("person a 1;");
        for (int what : new int[] {11, 21, 30, 40, 50, 60, 70}) {
            due("told(" + what + ") of one person", one.told(what), NONE);
        }
    }

    private static void meetingCalls() {
        sentence("Of a MEETING, what 0, 1: who meets, 2: its hour, 3: its number of ten; RANGE.");
        OneHead x = of(PAIR + "meet b a 7 chance 3;" + "meet a b 1;".repeat(15));
        due("meeting(0, 0)", x.meeting(0, 0), 1);
        due("meeting(0, 1)", x.meeting(0, 1), 0);
        due("meeting(0, 2)", x.meeting(0, 2), 7);
        due("meeting(0, 3)", x.meeting(0, 3), 3);
        due("meeting(15, 3)", x.meeting(15, 3), 10);
        due("meeting(16, 0)", x.meeting(16, 0), RANGE);
        due("meeting(-1, 0)", x.meeting(-1, 0), RANGE);
        due("meeting(0, 4)", x.meeting(0, 4), RANGE);
        due("meeting(0, -1)", x.meeting(0, -1), RANGE);
        due("meeting(1, 0) of one", of(PAIR + "meet a b 1;").meeting(1, 0), RANGE);
        due("meeting(0, 0) of none", of(PAIR).meeting(0, 0), RANGE);
    }

    private static void times() {
        sentence("HOURS are 0 .. 95: four days of 24.");
        OneHead x = of(PAIR + "meet a b 23;meet b a 0;");
        int[] hours = {0, 23, 24, 47, 48, 71, 72, 95};
        for (int t = 0; t < 8; t++) {
            due("time(" + t + ", 0)", x.time(t, 0), hours[t]);
            due("time(" + t + ", 1)", x.time(t, 1), 1 - t % 2);
        }

        sentence("TIMES: the MEETINGS of all days in their row, by HOURS, then by their numbers: TIME 0, 1, .. "
                + "(at most 64); at the end none comes any more.");
        OneHead most = of(PAIR + "meet a b 5;meet a b 4;".repeat(8));
        due("told(3)", most.told(3), 64);
        for (int t = 0; t < 64; t++) {
            int i = t % 16;
            due("time(" + t + ", 0)", most.time(t, 0), t / 16 * 24 + (i < 8 ? 4 : 5));
            due("time(" + t + ", 1)", most.time(t, 1), i < 8 ? 2 * i + 1 : 2 * (i - 8));
        }
        due("time(64, 0)", most.time(64, 0), RANGE);
        most.begin(1);
        due("go(64)", most.go(64), 64);
        due("go(1) at the end", most.go(1), RANGE);
        due("no meetings, no times", of(PAIR).told(3), 0);

        sentence("Of a TIME, what 0: its HOUR, 1: its MEETING; RANGE.");
        due("time(8, 0)", x.time(8, 0), RANGE);
        due("time(-1, 0)", x.time(-1, 0), RANGE);
        due("time(0, 2)", x.time(0, 2), RANGE);
        due("time(0, -1)", x.time(0, -1), RANGE);
        due("time(7, 1)", x.time(7, 1), 0);
        due("time(0, 0) of none", of(PAIR).time(0, 0), RANGE);
    }

    private static void count() {
        sentence("What 0: clauses of the VILLAGE, 1: bytes of THE TAPE. NONE for others.");
        OneHead x = of(PAIR);
        due("count(0)", x.count(0), 2);
        due("count(1)", x.count(1), 0);
        say(x, "abc");
        due("count(1)", x.count(1), 3);
        due("count(0)", x.count(0), 2);
        for (int what : new int[] {-1, 2, Integer.MAX_VALUE, Integer.MIN_VALUE}) {
            due("count(" + what + ")", x.count(what), NONE);
        }
        tellVillage(x, "");
        due("count(0) told anew", x.count(0), 0);
    }

    private static void calls512() {
        sentence("An object is used for at most 512 calls after it has been made");
        OneHead x = new OneHead();
        for (int i = 0; i < 508; i++) {
            x.feed(0x20202020, 0x20202020, 0x20202020, 0x20202020, 0x20202020);
        }
        x.end(0);
        x.feed(0x70657273, 0x6f6e2061, 0x20313b20, 0x20202020, 0x20202020);
        due("the 511th call", x.village(), 1);
        due("the 512th call", x.told(0), 1);
    }
}
