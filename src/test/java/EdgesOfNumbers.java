
/** Every number of every call, far below and far above what it can be; what is refused changes nothing. */
final class EdgesOfNumbers extends Sentences {
    private static final int[] FAR = {Integer.MIN_VALUE, Integer.MIN_VALUE + 1, -65536, -1001, -1000, -33, -32, -31, -16, -8,
        -7, -4, -3, -2, -1, 7, 8, 16, 17, 31, 32, 33, 64, 65, 96, 401, 1000, 65536, 1 << 30, Integer.MAX_VALUE - 1,
        Integer.MAX_VALUE};
    /** Three people, two meetings, two news: eight TIMES. */
    private static final String VILLAGE = "person a 2;person b 2;person c 2;meet a b 8;meet b c 20 chance 5;"
            + "news a c 30 10;news b a 20 7;";

    private EdgesOfNumbers() {
    }

    static void all() {
        constants();
        villageNumbers();
        pieceNumbers();
        findingNumbers();
        runNumbers();
        nothingTold();
    }

    private static void constants() {
        sentence("NONE = -1: There is none.");
        due("NONE", OneHead.NONE, -1);
        sentence("FULL = -3: No room.");
        due("FULL", OneHead.FULL, -3);
        sentence("STATE = -4: Not as things are.");
        due("STATE", OneHead.STATE, -4);
        sentence("RANGE = -2: A number that can't be.");
        due("RANGE", OneHead.RANGE, -2);
    }

    /** A call with one number left open. */
    private interface Call {
        int with(OneHead x, int number);
    }

    /** Each number outside of least .. most has one answer, and leaves all as it was. */
    private static void outside(String name, int least, int most, int want, Call call) {
        OneHead x = running();
        String ahead = stateOf(x);
        due(name + ", " + (least - 1), call.with(x, least - 1), want);
        if (most < Integer.MAX_VALUE) {
            due(name + ", " + (most + 1), call.with(x, most + 1), want);
        }
        for (int number : FAR) {
            if (number < least || number > most) {
                due(name + ", " + number, call.with(x, number), want);
            }
        }
        due("nothing changed by " + name, stateOf(x).equals(ahead) ? 1 : 0, 1);
        for (int p = 0; p < 3; p++) {
            due("the rule of " + p, x.rule(p, 3, 0), 3);
        }
        due("the slot", x.take(0), 3);
        due("the other slots", x.take(1) + x.take(2), STATE + STATE);
    }

    private static OneHead running() {
        OneHead x = of(VILLAGE);
        x.begin(3);
        x.go(3);
        x.keep(0);
        judge(x, "0 0;");
        fight(x, "0 1;", 0);
        return x;
    }

    private static String stateOf(OneHead x) {
        StringBuilder s = new StringBuilder();
        for (int n = 0; n < 2; n++) {
            s.append(x.judged(n, 0)).append(' ').append(x.judged(n, 1)).append(' ').append(x.believe(n)).append(' ');
            for (int what = 0; what < 3; what++) {
                s.append(x.now(n, what)).append(' ');
            }
        }
        for (int p = 0; p < 3; p++) {
            s.append(x.told(10 + p)).append(' ').append(x.head(p, 0)).append(' ').append(x.head(p, 1)).append(' ');
        }
        return s.append(x.go(0)).append(' ').append(x.count(0)).toString();
    }

    private static void villageNumbers() {
        outside("end", 0, 0, NONE, (x, number) -> x.end(number));
        outside("fault", 0, 1, NONE, (x, number) -> x.fault(number));
        outside("told", 0, 79, NONE, (x, number) -> x.told(number));
        outside("meeting of m", 0, 1, RANGE, (x, m) -> x.meeting(m, 0));
        outside("meeting of what", 0, 3, RANGE, (x, what) -> x.meeting(0, what));
        outside("time of t", 0, 7, RANGE, (x, t) -> x.time(t, 0));
        outside("time of what", 0, 1, RANGE, (x, what) -> x.time(0, what));
        outside("judged of news", 0, 1, RANGE, (x, n) -> x.judged(n, 0));
        outside("judged of what", 0, 1, NONE, (x, what) -> x.judged(0, what));
        outside("believe", 0, 1, NONE, (x, number) -> x.believe(number));
        outside("count", 0, 1, NONE, (x, number) -> x.count(number));
    }

    private static void pieceNumbers() {
        outside("soon of news", 0, 1, RANGE, (x, n) -> x.soon(n, 0, 1, 0));
        outside("soon of from", 0, 2, RANGE, (x, p) -> x.soon(0, p, 1, 0));
        outside("soon of to", 0, 2, RANGE, (x, p) -> x.soon(0, 0, p, 0));
        outside("soon of from and to", 0, 2, RANGE, (x, p) -> x.soon(0, p, p, 0));
        outside("soon of time", 0, 8, RANGE, (x, t) -> x.soon(0, 0, 1, t));
        outside("surest of news", 0, 1, RANGE, (x, n) -> x.surest(n, 0, 1, 0, 9, 0));
        outside("surest of from", 0, 2, RANGE, (x, p) -> x.surest(0, p, 1, 0, 9, 0));
        outside("surest of to", 0, 2, RANGE, (x, p) -> x.surest(0, 0, p, 0, 9, 0));
        outside("surest of time", 0, 8, RANGE, (x, t) -> x.surest(0, 0, 1, t, 9, 0));
        outside("surest of hour", 0, 95, RANGE, (x, hour) -> x.surest(0, 0, 1, 0, hour, 0));
        outside("surest of what", 0, 1, RANGE, (x, what) -> x.surest(0, 0, 1, 0, 9, what));
        outside("bars of news", 0, 1, RANGE, (x, n) -> x.bars(n, 0, 1, 0));
        outside("bars of from", 0, 2, RANGE, (x, p) -> x.bars(0, p, 1, 0));
        outside("bars of to", 0, 2, RANGE, (x, p) -> x.bars(0, 0, p, 0));
        outside("bars of time", 0, 8, RANGE, (x, t) -> x.bars(0, 0, 1, t));
        outside("all", 0, 1, RANGE, (x, number) -> x.all(number));
        outside("together of set", 1, 3, RANGE, (x, set) -> x.together(set, 0));
        outside("together of person", 0, 2, RANGE, (x, p) -> x.together(1, p));
        outside("reply", 0, 8, RANGE, (x, t) -> reply(x, "01", t));
    }

    private static void findingNumbers() {
        outside("ring", 0, 400, RANGE, (x, d) -> ring(x, "0", d));
        outside("bestRing", 1, 3, RANGE, (x, number) -> x.bestRing(number));
        outside("where of news", 0, 1, RANGE, (x, n) -> x.where(n, 0, 0, 5, 1, 0));
        outside("where of from", 0, 2, RANGE, (x, p) -> x.where(0, p, 0, 5, 1, 0));
        outside("where of t", 0, 2, RANGE, (x, t) -> x.where(0, 0, t, 5, 2, 0));
        outside("where of u", 0, 10, RANGE, (x, u) -> x.where(0, 0, 0, u, 1, 0));
        outside("where of z", 2, 8, RANGE, (x, z) -> x.where(0, 0, 2, 5, z, 0));
        outside("where of person", 0, 2, RANGE, (x, p) -> x.where(0, 0, 0, 5, 1, p));
        outside("ask of news", 0, 1, RANGE, (x, n) -> x.ask(n, 0, 0, 5, 1));
        outside("ask of from", 0, 2, RANGE, (x, p) -> x.ask(0, p, 0, 5, 1));
        outside("ask of t", 0, 2, RANGE, (x, t) -> x.ask(0, 0, t, 5, 2));
        outside("ask of u", 0, 10, RANGE, (x, u) -> x.ask(0, 0, 0, u, 1));
        outside("ask of z", 2, 8, RANGE, (x, z) -> x.ask(0, 0, 2, 5, z));
        outside("fight", 0, 2, NO_PERSON, (x, p) -> fight(x, "0 0;", p));
    }

    private static void runNumbers() {
        outside("rule of person", 0, 2, RANGE, (x, p) -> x.rule(p, 0, 0));
        outside("rule of kind", 0, 5, RANGE, (x, kind) -> x.rule(0, kind, 0));
        outside("rule of k", 0, 2, RANGE, (x, k) -> x.rule(0, 1, k));
        outside("begin", 0, Integer.MAX_VALUE, RANGE, (x, number) -> x.begin(number));
        outside("go", 0, 5, RANGE, (x, number) -> x.go(number));
        outside("now of news", 0, 1, RANGE, (x, n) -> x.now(n, 0));
        outside("now of what", 0, 2, RANGE, (x, what) -> x.now(0, what));
        outside("head of person", 0, 2, RANGE, (x, p) -> x.head(p, 0));
        outside("head of what", 0, 1, RANGE, (x, what) -> x.head(0, what));
        outside("keep", 0, 2, RANGE, (x, number) -> x.keep(number));
        outside("take", 0, 2, RANGE, (x, number) -> x.take(number));
    }

    /** A new object has no people, news or times: no number of one can be. */
    private static void nothingTold() {
        OneHead x = new OneHead();
        for (int number : new int[] {Integer.MIN_VALUE, -1, 0, 1, 6, 7, Integer.MAX_VALUE}) {
            due("meeting", x.meeting(number, 0), RANGE);
            due("time", x.time(number, 0), RANGE);
            due("judged", x.judged(number, 0), RANGE);
            due("soon", x.soon(number, 0, 1, 0), RANGE);
            due("surest", x.surest(number, 0, 1, 0, 9, 0), RANGE);
            due("bars", x.bars(number, 0, 1, 0), RANGE);
            due("together", x.together(number, 0), RANGE);
            due("bestRing", x.bestRing(number), RANGE);
            due("where", x.where(number, 0, 0, 5, 0, 0), RANGE);
            due("ask", x.ask(number, 0, 0, 5, 0), RANGE);
            due("fight", x.fight(number), NO_PERSON);
            due("rule", x.rule(number, 3, 0), RANGE);
            due("now", x.now(number, 0), RANGE);
            due("head", x.head(number, 0), RANGE);
            due("ring of d", x.ring(number), number < 0 || number > 400 ? RANGE : NONE);
            due("reply from a TIME", x.reply(number), number == 0 ? NONE : RANGE);
        }
    }
}
