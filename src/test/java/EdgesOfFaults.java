/** Faults of a village by kind and place: Terms I. */
final class EdgesOfFaults extends Sentences {
    private static final int SYNTAX = 1;
    private static final int BOUNDS = 2;
    private static final int TWICE = 3;
    private static final int ROOM = 4;
    private static final int UNKNOWN = 5;
    /** Each has 33 bytes, so what is told behind them begins at place 33. */
    private static final String THREE = "person a 1;person b 2;person c 3;";
    private static final String SEVEN = THREE + "person d 1;person e 1;person f 1;person g 1;";

    private EdgesOfFaults() {
    }

    static void all() {
        places();
        firstCome();
        leastKind();
        syntax();
        bounds();
        twice();
        room();
        unknown();
        clausesAheadAreNotTold();
    }

    private static void places() {
        sentence("KIND and PLACE (a TOKEN's first byte; the text's length at its end)");
        dueFault("x", SYNTAX, 0);
        dueFault("  \n x", SYNTAX, 4);
        dueFault("person   abc   9  ;", BOUNDS, 15);
        dueFault("person abcdefghijkl 1;", SYNTAX, 7);
        dueFault("person a 12345;", SYNTAX, 9);
        dueFault("person", SYNTAX, 6);
        dueFault("person  \n ", SYNTAX, 10);
        dueFault("person a", SYNTAX, 8);
        dueFault("person a 1", SYNTAX, 10);
        dueFault("person a 1 dies", SYNTAX, 15);
        dueFault("person a 1 dies 9", SYNTAX, 17);
        dueFault("person a 1 dies 9 ", SYNTAX, 18);
    }

    private static void firstCome() {
        sentence("the first come to as TOKENS are read one by one");
        dueFault("person a 9 !", BOUNDS, 9);
        dueFault("person a 9;person a 1;", BOUNDS, 9);
        dueFault("person a 1;person a 9;", TWICE, 18);
        dueFault("person a 1;person a", TWICE, 18);
        dueFault(THREE + "meet x x 99;", UNKNOWN, 38);
        dueFault(THREE + "meet a x 99;", UNKNOWN, 40);
        dueFault(THREE + "meet a a 99;", TWICE, 40);
        dueFault(THREE + "meet a b 99 chance 99;", BOUNDS, 42);
        dueFault(THREE + "news a b 99 999;", BOUNDS, 42);
        dueFault(THREE + "meet a b 1 chance 99", BOUNDS, 51);
        dueFault(THREE + "meet a b 99", BOUNDS, 42);
        dueFault(THREE + "bar x 9;", UNKNOWN, 37);
        dueFault(THREE + "bar a !", SYNTAX, 39);
        dueFault("! person a 9;", SYNTAX, 0);
    }

    private static void leastKind() {
        sentence("of one TOKEN the least KIND");
        // too long and out of its bounds, too long and unknown, too long and told twice
        dueFault("person a 9999;", SYNTAX, 9);
        dueFault(THREE + "meet abcdefghi b 1;", SYNTAX, 38);
        dueFault("person abcdefgh 1;person abcdefgha 1;", SYNTAX, 25);
        // a wrong kind of token where a number out of its bounds or an unknown name might stand
        dueFault("person a x;", SYNTAX, 9);
        dueFault(THREE + "meet a 99 1;", SYNTAX, 40);
        dueFault(THREE + "bar a x;", SYNTAX, 39);
        // of no news: not twice, whoever is barred
        dueFault(THREE + "bar a 0;", BOUNDS, 39);
        // words with which no clause begins are no clause too many
        dueFault(SEVEN + "persons h 1;", SYNTAX, 77);
        dueFault(THREE + "meet a b 1;".repeat(16) + "meets a b 1;", SYNTAX, 209);
    }

    private static void syntax() {
        sentence("1 SYNTAX: a TOKEN (or byte that is none, a run that is too long) with which no text goes on.");
        dueFault("person;", SYNTAX, 6);
        dueFault("person a;", SYNTAX, 8);
        dueFault("person 1 1;", SYNTAX, 7);
        dueFault("person a b;", SYNTAX, 9);
        dueFault("person a 1 b;", SYNTAX, 11);
        dueFault("person a 1 1;", SYNTAX, 11);
        dueFault("person a, 1;", SYNTAX, 8);
        dueFault("person a 1.", SYNTAX, 10);
        dueFault(",person a 1;", SYNTAX, 0);
        dueFault("person a 1;,", SYNTAX, 11);
        dueFault("person a\t1;", SYNTAX, 8);
        dueFault("person a 1;\r\n", SYNTAX, 11);
        dueFault("person abcdefghi 1;", SYNTAX, 7);
        dueFault("person a 1111;", SYNTAX, 9);
        dueFault("person a 1;1111", SYNTAX, 11);
        dueFault("person a 1;abcdefghi", SYNTAX, 11);
        dueFault(THREE + "news a b 1;", SYNTAX, 43);
        dueFault(THREE + "news a b 1 1 1;", SYNTAX, 46);
        dueFault(THREE + "news a b 1 1 chance 1;", SYNTAX, 46);
        dueFault(THREE + "news a b 1 1;bar c 0 0;", SYNTAX, 54);
        dueFault(THREE + "meet a b c;", SYNTAX, 42);
        dueFault(THREE + "meet a;", SYNTAX, 39);
    }

    private static void bounds() {
        sentence("2 RANGE: an N out of its bounds, or of NEWS that there isn't.");
        dueFault("person a 0;", BOUNDS, 9);
        dueFault("person a 4;", BOUNDS, 9);
        dueFault("person a 1 dies 501;", BOUNDS, 16);
        dueFault(THREE + "meet a b 24;", BOUNDS, 42);
        dueFault(THREE + "meet a b 0 chance 0;", BOUNDS, 51);
        dueFault(THREE + "meet a b 0 chance 11;", BOUNDS, 51);
        dueFault(THREE + "news a b 96 0;", BOUNDS, 42);
        dueFault(THREE + "news a b 0 100;", BOUNDS, 44);
        dueFault(THREE + "bar a 0;", BOUNDS, 39);
        dueFault(THREE + "news a b 0 0;bar c 1;", BOUNDS, 52);
        String four = THREE + "news a b 0 0;news b a 0 0;news c a 0 0;news c b 0 0;";
        due("bar of NEWS 3", of(four + "bar a 3;").told(73), 1);
        dueFault(four + "bar a 4;", BOUNDS, 91);
        dueFault(four + "bar a 999;", BOUNDS, 91);
    }

    private static void twice() {
        sentence("3 TWICE: a PERSON's name that one has; the second name of a meet, of a news, that is its first; "
                + "the NEWS of a bar from whom it is, or of a bar that was told so.");
        dueFault("person a 1;person a 1;", TWICE, 18);
        dueFault(THREE + "person c 1;", TWICE, 40);
        dueFault(THREE + "person a 1;", TWICE, 40);
        dueFault("person abcdefgh 1;person abcdefgh 1;", TWICE, 25);
        dueFault(THREE + "meet c c 1;", TWICE, 40);
        dueFault(THREE + "news c c 1 1;", TWICE, 40);
        String news = THREE + "news a b 1 1;news b c 1 1;";
        dueFault(news + "bar a 0;", TWICE, 65);
        dueFault(news + "bar b 1;", TWICE, 65);
        dueFault(news + "bar c 0;bar c 0;", TWICE, 73);
        dueFault(news + "bar c 0;bar b 0;bar c 0;", TWICE, 81);
        due("another one, another news", of(news + "bar c 0;bar c 1;bar b 0;").told(71), 4);
        due("for whom it is may be barred", of(news + "bar b 0;").told(70), 2);
        due("two that meet twice", of(THREE + "meet a b 1;meet a b 1;meet b a 1;").told(1), 3);
        due("the same news twice", of(THREE + "news b a 1 1;news b a 1 1;").told(2), 2);
    }

    private static void room() {
        sentence("4 ROOM: a PERSON, MEETING, NEWS too many, at its first WORD; NEWS more than its first PERSON holds, "
                + "at that name.");
        dueFault(SEVEN + "person h 1;", ROOM, 77);
        dueFault(SEVEN + "person a 1;", ROOM, 77);
        dueFault(SEVEN + "  person", ROOM, 79);
        String sixteen = THREE + "meet a b 1;".repeat(16);
        dueFault(sixteen + "meet a b 1;", ROOM, 209);
        dueFault(sixteen + "meet a a 1;", ROOM, 209);
        dueFault(sixteen + "meet", ROOM, 209);
        String four = THREE + "news a b 0 0;news b a 0 0;news c a 0 0;news c b 0 0;";
        dueFault(four + "news c a 1 1;", ROOM, 85);
        dueFault(four + "news a b 1 1;", ROOM, 85);
        dueFault(four + "news x", ROOM, 85);
        dueFault(THREE + "news a b 1 1;news a b 1 1;", ROOM, 51);
        dueFault(THREE + "news a b 1 1;news a", ROOM, 51);
        dueFault(THREE + "news a b 1 1;news a a", ROOM, 51);
        String two = THREE + "news b a 1 1;news b a 1 1;";
        due("two of b", of(two).told(2), 2);
        dueFault(two + "news b a 1 1;", ROOM, 64);
        String three = THREE + "news c a 1 1;news c a 1 1;news c a 1 1;";
        due("three of c", of(three).told(2), 3);
        dueFault(three + "news c a 1 1;", ROOM, 77);
        due("news of others don't count", of(three + "news a c 1 1;").told(2), 4);
        due("nor for whom it is", of(THREE + "news b a 1 1;news c a 1 1;news a b 1 1;").told(2), 3);
    }

    private static void unknown() {
        sentence("5 UNKNOWN: a W that should be a PERSON and is none.");
        dueFault("meet a b 1;", UNKNOWN, 5);
        dueFault("news a b 1 1;", UNKNOWN, 5);
        dueFault("bar a 0;", UNKNOWN, 4);
        dueFault(THREE + "meet d a 1;", UNKNOWN, 38);
        dueFault(THREE + "meet a d 1;", UNKNOWN, 40);
        dueFault(THREE + "news d a 1 1;", UNKNOWN, 38);
        dueFault(THREE + "news a d 1 1;", UNKNOWN, 40);
        dueFault(THREE + "bar d 0;", UNKNOWN, 37);
        dueFault(THREE + "meet aa b 1;", UNKNOWN, 38);
        dueFault("person abcdefgh 1;meet abcdefg x 1;", UNKNOWN, 23);
        dueFault("person aa 1;person b 1;meet a b 1;", UNKNOWN, 28);
        due("words of clauses may be names",
                of("person person 1;person meet 1;person dies 1 dies 5;meet person meet 1 chance 5;").told(0), 3);
    }

    /** A fault in the last clause leaves nothing of the clauses ahead of it. */
    private static void clausesAheadAreNotTold() {
        OneHead x = new OneHead();
        tellVillage(x, SEVEN + "meet a b 1;news a b 1 1;bar c 0;x");
        for (int what = 0; what < 4; what++) {
            due("told(" + what + ")", x.told(what), 0);
        }
        due("count(0)", x.count(0), 0);
        due("the same text again", tellVillage(x, SEVEN + "meet a b 1;news a b 1 1;bar c 0;"), 10);
        due("told(70)", x.told(70), 4);
    }
}
