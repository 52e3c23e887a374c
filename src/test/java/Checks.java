/** What the tests by hand have in common: texts told to the tape, and answers looked at. */
abstract class Checks {
    static final int NONE = OneHead.NONE;
    static final int RANGE = OneHead.RANGE;
    static final int FULL = OneHead.FULL;
    static final int STATE = OneHead.STATE;
    static final int NO_ROW = -1000;
    static final int NO_PERSON = -2000;

    /** What the answers that come next are looked at for. */
    static String about = "";
    static int made = 0;
    static int wrong = 0;

    static void due(String call, int got, int want) {
        made++;
        if (got != want) {
            wrong++;
            System.out.println(about + ": " + call + " answered " + got + ", due is " + want);
        }
    }

    static void finish() {
        System.out.println(made + " answers looked at, " + wrong + " are not as due");
        if (wrong != 0) {
            System.exit(1);
        }
    }

    /** Feeds twenty bytes a call; the last call's rest is blanks, which are cut off. */
    static void say(OneHead x, String text) {
        x.end(0);
        for (int i = 0; i < text.length(); i += 20) {
            int[] five = new int[5];
            for (int j = 0; j < 20; j++) {
                five[j / 4] = five[j / 4] << 8 | (i + j < text.length() ? text.charAt(i + j) : ' ');
            }
            x.feed(five[0], five[1], five[2], five[3], five[4]);
        }
        x.end(text.length());
    }

    static int tellVillage(OneHead x, String text) {
        say(x, text);
        return x.village();
    }

    /** A new object with a village in which there is no fault. */
    static OneHead of(String text) {
        OneHead x = new OneHead();
        if (tellVillage(x, text) < 0) {
            due("fault of \"" + text + "\"", x.fault(0) * 1000 + x.fault(1), 0);
        }
        return x;
    }

    static void dueFault(String text, int kind, int place) {
        OneHead x = new OneHead();
        due("village() of \"" + text + "\"", tellVillage(x, text), NONE);
        due("fault(0) of \"" + text + "\"", x.fault(0), kind);
        due("fault(1) of \"" + text + "\"", x.fault(1), place);
    }

    static int judge(OneHead x, String row) {
        say(x, row);
        return x.judge();
    }

    static int fight(OneHead x, String row, int person) {
        say(x, row);
        return x.fight(person);
    }

    static int reply(OneHead x, String row, int time) {
        say(x, row);
        return x.reply(time);
    }

    static int ring(OneHead x, String row, int d) {
        say(x, row);
        return x.ring(d);
    }
}
