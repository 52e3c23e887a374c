import java.util.Arrays;

/**
 * A village in which whoever tells a thing has forgotten it.
 *
 * Every row is made in a constructor and used again, because all calls of a run share one room.
 */
public final class OneHead {
    public static final int NONE = -1;
    public static final int RANGE = -2;
    public static final int FULL = -3;
    public static final int STATE = -4;

    private static final int MOST_PEOPLE = 7;
    private static final int MOST_MEETINGS = 16;
    private static final int MOST_NEWS = 4;
    private static final int DAYS = 4;
    private static final int DAY_HOURS = 24;
    private static final int MOST_TIMES = DAYS * MOST_MEETINGS;
    private static final int LAST_HOUR = DAYS * DAY_HOURS - 1;
    private static final int TAPE_ROOM = 900;
    private static final int FED = 20;
    /** The shortest telling, "0 0;", has four bytes. */
    private static final int MOST_TELLINGS = TAPE_ROOM / 4;
    private static final int MOST_RING_DAYS = 400;
    private static final int SLOTS = 3;
    private static final int NO_ROW = -1000;
    private static final int NO_PERSON = -2000;
    private static final int FIRST_DIGIT = 48;
    private static final int MILLION = 1000000;

    private final Tape tape;
    private final VillageReader reader;
    private final Tellings tellings;
    private final Fighting fighting;
    private final Chances chances;
    private final Product product;
    private final Pieces pieces;
    private final Runner runner;
    private Village village;
    private Village spare;

    public OneHead() {
        tape = new Tape();
        village = new Village();
        spare = new Village();
        reader = new VillageReader(tape, spare);
        tellings = new Tellings();
        fighting = new Fighting();
        chances = new Chances();
        product = new Product();
        pieces = new Pieces();
        runner = new Runner(chances);
    }

    // ---- the tape

    public int feed(int a, int b, int c, int d, int e) {
        if (tape.length > TAPE_ROOM - FED) {
            return FULL;
        }
        tape.addFour(a);
        tape.addFour(b);
        tape.addFour(c);
        tape.addFour(d);
        tape.addFour(e);
        return tape.length;
    }

    public int end(int n) {
        if (n < 0 || n > tape.length) {
            return NONE;
        }
        tape.length = n;
        return n;
    }

    // ---- the village

    public int village() {
        int clauses = reader.read(spare);
        tape.length = 0;
        if (clauses < 0) {
            return NONE;
        }
        Village heard = spare;
        spare = village;
        village = heard;
        tellings.known = false;
        fighting.known = false;
        pieces.known = false;
        runner.forget();
        return clauses;
    }

    public int fault(int what) {
        switch (what) {
            case 0:
                return reader.faultKind;
            case 1:
                return reader.faultPlace;
            default:
                return NONE;
        }
    }

    public int told(int what) {
        if (what < 0) {
            return NONE;
        }
        int i = what % 10;
        switch (what / 10) {
            case 0:
                return sizeOf(i);
            case 1:
                return entry(village.holds, village.people, i);
            case 2:
                return entry(village.dies, village.people, i);
            case 3:
                return entry(village.froms, village.news, i);
            case 4:
                return entry(village.fors, village.news, i);
            case 5:
                return entry(village.byHours, village.news, i);
            case 6:
                return entry(village.worths, village.news, i);
            case 7:
                return entry(village.barred, village.news, i);
            default:
                return NONE;
        }
    }

    private int sizeOf(int i) {
        switch (i) {
            case 0:
                return village.people;
            case 1:
                return village.meetings;
            case 2:
                return village.news;
            case 3:
                return village.times.size;
            default:
                return NONE;
        }
    }

    public int meeting(int m, int what) {
        if (m < 0 || m >= village.meetings) {
            return RANGE;
        }
        switch (what) {
            case 0:
                return at(village.firsts, m);
            case 1:
                return at(village.others, m);
            case 2:
                return at(village.hours, m);
            case 3:
                return at(village.chances, m);
            default:
                return RANGE;
        }
    }

    public int time(int t, int what) {
        if (t < 0 || t >= village.times.size) {
            return RANGE;
        }
        switch (what) {
            case 0:
                return at(village.times.hours, t);
            case 1:
                return at(village.times.meetings, t);
            default:
                return RANGE;
        }
    }

    // ---- tellings

    public int judge() {
        boolean isRow = tellings.read(tape);
        tape.length = 0;
        if (!isRow) {
            return NO_ROW;
        }
        return rightOrFirstWrong(tellings.doAll(village));
    }

    /** All tellings done answer their number; a wrong one answers NONE less its own. */
    private int rightOrFirstWrong(int done) {
        return done == tellings.size ? done : NONE - done;
    }

    public int judged(int news, int what) {
        if (!village.hasNews(news)) {
            return RANGE;
        }
        if (!tellings.known) {
            return NONE;
        }
        switch (what) {
            case 0:
                return at(tellings.with, news);
            case 1:
                return at(tellings.withByHour, news) == at(village.fors, news) ? 1 : 0;
            default:
                return NONE;
        }
    }

    // ---- one piece

    public int soon(int news, int from, int to, int time) {
        if (!village.hasNews(news) || !village.hasPerson(from)
                || !village.hasPerson(to) || !village.times.hasMoment(time)) {
            return RANGE;
        }
        if (from == to) {
            return STATE;
        }
        return village.times.soonest(at(village.barred, news), from, to, time);
    }

    public int surest(int news, int from, int to, int time, int hour, int what) {
        if (!village.hasNews(news) || !village.hasPerson(from)
                || !village.hasPerson(to) || !village.times.hasMoment(time)
                || hour < 0 || hour > LAST_HOUR || what < 0 || what > 1) {
            return RANGE;
        }
        Times times = village.times;
        chances.lookBack(times, at(village.barred, news), to, time, times.upTo(hour));
        return what == 0 ? chances.millionths(from) : chances.figures(from);
    }

    public int bars(int news, int from, int to, int time) {
        if (!village.hasNews(news) || !village.hasPerson(from)
                || !village.hasPerson(to) || !village.times.hasMoment(time) || from == to) {
            return RANGE;
        }
        int barred = at(village.barred, news);
        if (village.times.soonest(barred, from, to, time) == NONE) {
            return 0;
        }
        int found = 0;
        for (int p = 0; p < village.people; p++) {
            if (p != from && p != to
                    && village.times.soonest(barred | 1 << p, from, to, time) == NONE) {
                found |= 1 << p;
            }
        }
        return found;
    }

    // ---- all pieces

    public int all(int what) {
        switch (what) {
            case 0:
                pieces.workOut(village);
                return pieces.greatest;
            case 1:
                return worthApart();
            default:
                return RANGE;
        }
    }

    private int worthApart() {
        int sum = 0;
        for (int n = 0; n < village.news; n++) {
            int came = village.times.soonest(at(village.barred, n), at(village.froms, n),
                    at(village.fors, n), 0);
            if (came != NONE && came < at(village.deadlines, n)) {
                sum += at(village.worths, n);
            }
        }
        return sum;
    }

    public int together(int set, int person) {
        if (set < 1 || set >= 1 << village.news || !village.hasPerson(person)) {
            return RANGE;
        }
        pieces.workOut(village);
        int came = pieces.firstTogether(set, person);
        if (came == Pieces.AT_FIRST) {
            return STATE;
        }
        return came == Pieces.NEVER ? NONE : came;
    }

    public int reply(int time) {
        int answer = RANGE;
        if (village.times.hasMoment(time)) {
            answer = isWay() ? goneBack(time) : NONE;
        }
        tape.length = 0;
        return answer;
    }

    private int personOnTape(int i) {
        int person = tape.byteAt(i) - FIRST_DIGIT;
        return village.hasPerson(person) ? person : NONE;
    }

    private boolean isWay() {
        for (int i = 0; i < tape.length; i++) {
            int person = personOnTape(i);
            if (person == NONE || i > 0 && person == personOnTape(i - 1)) {
                return false;
            }
        }
        return tape.length >= 2;
    }

    private int goneBack(int time) {
        int came = NONE;
        int next = time;
        for (int i = tape.length - 1; i > 0; i--) {
            came = village.times.nextSureMeeting(personOnTape(i), personOnTape(i - 1), next);
            if (came == NONE) {
                return NONE;
            }
            next = came + 1;
        }
        return came;
    }

    // ---- keeping, finding, fighting

    public int ring(int d) {
        int answer = RANGE;
        if (d >= 0 && d <= MOST_RING_DAYS) {
            answer = isRing() ? chanceOfRing(d) : NONE;
        }
        tape.length = 0;
        return answer;
    }

    private boolean isRing() {
        int seen = 0;
        for (int i = 0; i < tape.length; i++) {
            int person = personOnTape(i);
            if (person == NONE || (seen >> person & 1) == 1) {
                return false;
            }
            seen |= 1 << person;
        }
        return tape.length >= 1;
    }

    private int chanceOfRing(int days) {
        product.startAtOne();
        int next = 0;
        for (int day = 0; day < days; day++) {
            product.timesThousandths(1000 - at(village.dies, personOnTape(next)));
            next = next + 1 < tape.length ? next + 1 : 0;
        }
        return product.millionths();
    }

    public int bestRing(int n) {
        if (n < 1 || n > village.people) {
            return RANGE;
        }
        int set = 0;
        for (int i = 0; i < n; i++) {
            set |= 1 << safestOutside(set);
        }
        return set;
    }

    /** The greatest product has the n who die least; the least numbers of alike ones make the least bits. */
    private int safestOutside(int set) {
        int safest = NONE;
        for (int p = 0; p < village.people; p++) {
            if ((set >> p & 1) == 0
                    && (safest == NONE || at(village.dies, p) < at(village.dies, safest))) {
                safest = p;
            }
        }
        return safest == NONE ? 0 : safest;
    }

    public int where(int news, int from, int t, int u, int z, int person) {
        if (!village.hasPerson(person) || !spread(news, from, t, u, z)) {
            return RANGE;
        }
        return chances.millionths(person);
    }

    public int ask(int news, int from, int t, int u, int z) {
        if (!spread(news, from, t, u, z)) {
            return RANGE;
        }
        int likeliest = 0;
        for (int p = 1; p < village.people; p++) {
            if (chances.compareRows(p, likeliest) > 0) {
                likeliest = p;
            }
        }
        return likeliest;
    }

    private boolean spread(int news, int from, int t, int u, int z) {
        if (!village.hasNews(news) || !village.hasPerson(from)
                || t < 0 || z < t || z > village.times.size || u < 0 || u > 10) {
            return false;
        }
        chances.goForward(village.times, at(village.barred, news), from, t, u, z);
        return true;
    }

    public int fight(int person) {
        boolean isRow = tellings.read(tape);
        tape.length = 0;
        if (!village.hasPerson(person)) {
            return NO_PERSON;
        }
        if (!isRow) {
            return NO_ROW;
        }
        return rightOrFirstWrong(fighting.doAll(village, tellings, person));
    }

    public int believe(int which) {
        if (!fighting.known) {
            return NONE;
        }
        switch (which) {
            case 0:
                return fighting.believers[0];
            case 1:
                return fighting.believers[1];
            default:
                return NONE;
        }
    }

    // ---- runs

    public int rule(int person, int kind, int k) {
        if (!village.hasPerson(person) || kind < Runner.NOBODY || kind > Runner.BEST
                || kind == Runner.TOLD && !village.hasPerson(k)) {
            return RANGE;
        }
        int before = at(runner.kinds, person);
        put(runner.kinds, person, kind);
        put(runner.tellsTo, person, k);
        return before;
    }

    public int begin(int seed) {
        if (seed < 0) {
            return RANGE;
        }
        runner.run.start(village, seed);
        return 1;
    }

    public int go(int times) {
        if (times < 0 || times > MOST_TIMES) {
            return RANGE;
        }
        if (!runner.run.on) {
            return STATE;
        }
        if (times > village.times.size - runner.run.next) {
            return RANGE;
        }
        for (int i = 0; i < times; i++) {
            runner.passTime(village);
        }
        return runner.run.next;
    }

    public int now(int news, int what) {
        if (!village.hasNews(news) || what < 0 || what > 2) {
            return RANGE;
        }
        if (!runner.run.on) {
            return NONE;
        }
        switch (what) {
            case 0:
                return at(runner.run.with, news);
            case 1:
                return at(runner.run.tellings, news);
            default:
                return at(runner.run.came, news);
        }
    }

    public int head(int person, int what) {
        if (!village.hasPerson(person) || what < 0 || what > 1) {
            return RANGE;
        }
        if (!runner.run.on) {
            return NONE;
        }
        return what == 0 ? Integer.bitCount(runner.run.piecesOf(person))
                : runner.run.living >> person & 1;
    }

    public int keep(int slot) {
        if (slot < 0 || slot >= SLOTS) {
            return RANGE;
        }
        if (!runner.run.on) {
            return STATE;
        }
        Run kept = runner.slotAt(slot);
        kept.copyFrom(runner.run);
        return kept.next;
    }

    public int take(int slot) {
        if (slot < 0 || slot >= SLOTS) {
            return RANGE;
        }
        Run kept = runner.slotAt(slot);
        if (!kept.on) {
            return STATE;
        }
        runner.run.copyFrom(kept);
        return runner.run.next;
    }

    public int count(int what) {
        switch (what) {
            case 0:
                return village.clauses;
            case 1:
                return tape.length;
            default:
                return NONE;
        }
    }

    // ---- rows looked at with care

    private static int at(int[] row, int i) {
        return i >= 0 && i < row.length ? row[i] : 0;
    }

    private static void put(int[] row, int i, int value) {
        if (i >= 0 && i < row.length) {
            row[i] = value;
        }
    }

    private static int entry(int[] row, int size, int i) {
        return i >= 0 && i < size ? at(row, i) : NONE;
    }

    /** The bytes fed and not yet read; kind, place and value are of the token come to last. */
    private static final class Tape {
        static final int AT_END = 0;
        static final int WORD = 1;
        static final int NUMBER = 2;
        static final int SEMICOLON = 3;
        static final int BLANK = 4;
        static final int WRONG = 5;
        static final int LONGEST_WORD = 8;
        static final int LONGEST_NUMBER = 3;

        final int[] bytes;
        int length;
        int next;
        int kind;
        int place;
        long value;

        Tape() {
            bytes = new int[TAPE_ROOM];
        }

        void addFour(int four) {
            for (int shift = 24; shift >= 0; shift -= 8) {
                if (length >= 0 && length < bytes.length) {
                    bytes[length] = four >> shift & 255;
                    length++;
                }
            }
        }

        int byteAt(int i) {
            return i >= 0 && i < length && i < bytes.length ? bytes[i] : NONE;
        }

        void restart() {
            next = 0;
            advance();
        }

        void advance() {
            while (next < length && kindOf(byteAt(next)) == BLANK) {
                next++;
            }
            place = next;
            value = 0;
            kind = kindOf(byteAt(next));
            if (kind != WORD && kind != NUMBER) {
                next = kind == AT_END ? next : next + 1;
                return;
            }
            while (next < length && kindOf(byteAt(next)) == kind) {
                value = withSign(value, byteAt(next));
                next++;
            }
            if (next - place > (kind == WORD ? LONGEST_WORD : LONGEST_NUMBER)) {
                kind = WRONG;
            }
        }

        boolean isWord(String text) {
            long code = 0;
            for (int i = 0; i < text.length(); i++) {
                code = withSign(code, text.charAt(i));
            }
            return kind == WORD && value == code;
        }

        /** Words of eight letters at most are unlike just when their values in base 27 are. */
        private static long withSign(long value, int sign) {
            return sign >= 'a' ? value * 27 + sign - 'a' + 1 : value * 10 + sign - FIRST_DIGIT;
        }

        private static int kindOf(int sign) {
            if (sign == NONE) {
                return AT_END;
            }
            if (sign >= 'a' && sign <= 'z') {
                return WORD;
            }
            if (sign >= '0' && sign <= '9') {
                return NUMBER;
            }
            if (sign == 32 || sign == 10) {
                return BLANK;
            }
            return sign == ';' ? SEMICOLON : WRONG;
        }
    }

    /** A village as it was told. */
    private static final class Village {
        final long[] names;
        final int[] holds;
        final int[] dies;
        final int[] firsts;
        final int[] others;
        final int[] hours;
        final int[] chances;
        final int[] froms;
        final int[] fors;
        final int[] byHours;
        final int[] worths;
        final int[] barred;
        /** A telling counts for whether news came in time if its time is below this. */
        final int[] deadlines;
        final Times times;
        int people;
        int meetings;
        int news;
        int clauses;

        Village() {
            names = new long[MOST_PEOPLE];
            holds = new int[MOST_PEOPLE];
            dies = new int[MOST_PEOPLE];
            firsts = new int[MOST_MEETINGS];
            others = new int[MOST_MEETINGS];
            hours = new int[MOST_MEETINGS];
            chances = new int[MOST_MEETINGS];
            froms = new int[MOST_NEWS];
            fors = new int[MOST_NEWS];
            byHours = new int[MOST_NEWS];
            worths = new int[MOST_NEWS];
            barred = new int[MOST_NEWS];
            deadlines = new int[MOST_NEWS];
            times = new Times();
        }

        void clear() {
            people = 0;
            meetings = 0;
            news = 0;
            clauses = 0;
            times.size = 0;
        }

        void addPerson(long name, int pieces, int deaths) {
            if (people < 0 || people >= names.length) {
                return;
            }
            names[people] = name;
            put(holds, people, pieces);
            put(dies, people, deaths);
            people++;
        }

        void addMeeting(int first, int other, int hour, int chance) {
            put(firsts, meetings, first);
            put(others, meetings, other);
            put(hours, meetings, hour);
            put(chances, meetings, chance);
            meetings++;
        }

        void addNews(int from, int to, int hour, int worth) {
            put(froms, news, from);
            put(fors, news, to);
            put(byHours, news, hour);
            put(worths, news, worth);
            put(barred, news, 0);
            news++;
        }

        int personNamed(long name) {
            for (int p = 0; p < people && p < names.length; p++) {
                if (names[p] == name) {
                    return p;
                }
            }
            return NONE;
        }

        int newsFrom(int person) {
            int found = 0;
            for (int n = 0; n < news; n++) {
                if (at(froms, n) == person) {
                    found++;
                }
            }
            return found;
        }

        void layTimes() {
            for (int hour = 0; hour <= LAST_HOUR; hour++) {
                for (int m = 0; m < meetings; m++) {
                    if (at(hours, m) == hour % DAY_HOURS) {
                        times.add(hour, m, at(firsts, m), at(others, m), at(chances, m));
                    }
                }
            }
            for (int n = 0; n < news; n++) {
                put(deadlines, n, times.upTo(at(byHours, n)));
            }
        }

        boolean hasPerson(int p) {
            return p >= 0 && p < people;
        }

        boolean hasNews(int n) {
            return n >= 0 && n < news;
        }

        boolean isLastOfDay(int t) {
            return meetings > 0 && (t + 1) % meetings == 0;
        }
    }

    /** The meetings of all days in their row. */
    private static final class Times {
        static final int SURELY = 10;

        final int[] hours;
        final int[] meetings;
        final int[] firsts;
        final int[] others;
        final int[] chances;
        int size;

        Times() {
            hours = new int[MOST_TIMES];
            meetings = new int[MOST_TIMES];
            firsts = new int[MOST_TIMES];
            others = new int[MOST_TIMES];
            chances = new int[MOST_TIMES];
        }

        void add(int hour, int meeting, int first, int other, int chance) {
            put(hours, size, hour);
            put(meetings, size, meeting);
            put(firsts, size, first);
            put(others, size, other);
            put(chances, size, chance);
            size++;
        }

        /** A moment is ahead of a time or behind them all. */
        boolean hasMoment(int t) {
            return t >= 0 && t <= size;
        }

        int upTo(int hour) {
            int found = 0;
            for (int t = 0; t < size; t++) {
                if (at(hours, t) <= hour) {
                    found++;
                }
            }
            return found;
        }

        boolean isSure(int t) {
            return at(chances, t) == SURELY;
        }

        int nextSureMeeting(int one, int another, int time) {
            int wanted = 1 << one | 1 << another;
            for (int t = time; t < size; t++) {
                if (isSure(t) && (1 << at(firsts, t) | 1 << at(others, t)) == wanted) {
                    return t;
                }
            }
            return NONE;
        }

        /** The least time behind which a piece can be with another one; all ways are gone at once. */
        int soonest(int barred, int from, int to, int time) {
            int reached = 1 << from;
            for (int t = time; t < size; t++) {
                int pair = 1 << at(firsts, t) | 1 << at(others, t);
                if (isSure(t) && (reached & pair) != 0) {
                    reached |= pair & ~barred;
                    if ((reached >> to & 1) == 1) {
                        return t;
                    }
                }
            }
            return NONE;
        }
    }

    /** Reads a village clause by clause, up to the first fault. */
    private static final class VillageReader {
        static final int SYNTAX = 1;
        static final int OUT_OF_BOUNDS = 2;
        static final int TWICE = 3;
        static final int ROOM = 4;
        static final int UNKNOWN = 5;

        final Tape tape;
        Village village;
        int faultKind;
        int faultPlace;

        VillageReader(Tape tape, Village target) {
            this.tape = tape;
            village = target;
            faultPlace = NONE;
        }

        int read(Village target) {
            village = target;
            target.clear();
            faultKind = 0;
            faultPlace = NONE;
            tape.restart();
            for (int i = 0; i < TAPE_ROOM && faultKind == 0 && tape.kind != Tape.AT_END; i++) {
                if (tape.isWord("person")) {
                    readPerson();
                } else if (tape.isWord("meet")) {
                    readMeeting();
                } else if (tape.isWord("news")) {
                    readNews();
                } else if (tape.isWord("bar")) {
                    readBar();
                } else {
                    fail(SYNTAX);
                }
                closeClause();
            }
            if (faultKind != 0) {
                return NONE;
            }
            target.layTimes();
            return target.clauses;
        }

        private void fail(int kind) {
            if (faultKind == 0) {
                faultKind = kind;
                faultPlace = tape.place;
            }
        }

        private void closeClause() {
            if (tape.kind != Tape.SEMICOLON) {
                fail(SYNTAX);
            }
            if (faultKind == 0) {
                village.clauses++;
                tape.advance();
            }
        }

        private void readPerson() {
            if (village.people >= MOST_PEOPLE) {
                fail(ROOM);
            }
            long name = readToken(Tape.WORD);
            if (village.personNamed(name) != NONE) {
                fail(TWICE);
            }
            int pieces = readNumber(1, 3);
            int deaths = readOption("dies", 0, 500, 0);
            if (faultKind == 0) {
                village.addPerson(name, pieces, deaths);
            }
        }

        private void readMeeting() {
            if (village.meetings >= MOST_MEETINGS) {
                fail(ROOM);
            }
            int first = readPersonBut(NONE);
            int other = readPersonBut(first);
            int hour = readNumber(0, DAY_HOURS - 1);
            int chance = readOption("chance", 1, 10, 10);
            if (faultKind == 0) {
                village.addMeeting(first, other, hour, chance);
            }
        }

        private void readNews() {
            if (village.news >= MOST_NEWS) {
                fail(ROOM);
            }
            int from = readPersonBut(NONE);
            if (village.newsFrom(from) >= at(village.holds, from)) {
                fail(ROOM);
            }
            int to = readPersonBut(from);
            int hour = readNumber(0, LAST_HOUR);
            int worth = readNumber(0, 99);
            if (faultKind == 0) {
                village.addNews(from, to, hour, worth);
                tape.advance();
            }
        }

        private void readBar() {
            int person = readPersonBut(NONE);
            int n = readNumber(0, village.news - 1);
            if (faultKind == 0 && (at(village.froms, n) == person
                    || (at(village.barred, n) >> person & 1) == 1)) {
                fail(TWICE);
            }
            if (faultKind == 0) {
                put(village.barred, n, at(village.barred, n) | 1 << person);
                tape.advance();
            }
        }

        /** Behind a fault no token is read and none is told, so that the first one stays. */
        private long readToken(int kind) {
            if (faultKind != 0) {
                return NONE;
            }
            tape.advance();
            if (tape.kind != kind) {
                fail(SYNTAX);
            }
            return tape.value;
        }

        private int readPersonBut(int first) {
            int person = village.personNamed(readToken(Tape.WORD));
            if (person == NONE) {
                fail(UNKNOWN);
            } else if (person == first) {
                fail(TWICE);
            }
            return person;
        }

        private int readNumber(int least, int most) {
            long number = readToken(Tape.NUMBER);
            if (number < least || number > most) {
                fail(OUT_OF_BOUNDS);
            }
            return (int) number;
        }

        private int readOption(String keyword, int least, int most, int otherwise) {
            if (faultKind != 0) {
                return otherwise;
            }
            tape.advance();
            if (!tape.isWord(keyword)) {
                return otherwise;
            }
            int value = readNumber(least, most);
            if (faultKind == 0) {
                tape.advance();
            }
            return value;
        }
    }

    /** A row of tellings, each a time and a number of news, and where the latest judged ones led. */
    private static final class Tellings {
        final int[] times;
        final int[] news;
        final int[] with;
        final int[] withByHour;
        int size;
        boolean known;

        Tellings() {
            times = new int[MOST_TELLINGS];
            news = new int[MOST_TELLINGS];
            with = new int[MOST_NEWS];
            withByHour = new int[MOST_NEWS];
        }

        boolean read(Tape tape) {
            size = 0;
            tape.restart();
            for (int i = 0; i < MOST_TELLINGS && tape.kind != Tape.AT_END; i++) {
                int time = readBelow(tape, MOST_TIMES);
                int piece = readBelow(tape, MOST_NEWS);
                if (time == NONE || piece == NONE || tape.kind != Tape.SEMICOLON) {
                    return false;
                }
                tape.advance();
                put(times, i, time);
                put(news, i, piece);
                size = i + 1;
            }
            return tape.kind == Tape.AT_END;
        }

        private static int readBelow(Tape tape, int bound) {
            if (tape.kind != Tape.NUMBER || tape.value >= bound) {
                return NONE;
            }
            int number = (int) tape.value;
            tape.advance();
            return number;
        }

        /** Whether telling i has a time that there is and that is not ahead of the one before. */
        boolean isTimely(int i, Village village) {
            int time = at(times, i);
            return time < village.times.size && (i == 0 || time >= at(times, i - 1));
        }

        /** How many tellings could be done, one behind the other. */
        int doAll(Village village) {
            known = true;
            for (int n = 0; n < village.news; n++) {
                put(with, n, at(village.froms, n));
                put(withByHour, n, at(village.froms, n));
            }
            for (int i = 0; i < size; i++) {
                if (!isTimely(i, village) || !tell(village, at(times, i), at(news, i))) {
                    return i;
                }
            }
            return size;
        }

        private boolean tell(Village village, int t, int n) {
            if (!village.hasNews(n)) {
                return false;
            }
            int first = at(village.times.firsts, t);
            int other = at(village.times.others, t);
            int teller = at(with, n);
            if (teller != first && teller != other) {
                return false;
            }
            int hearer = teller == first ? other : first;
            if ((at(village.barred, n) >> hearer & 1) == 1
                    || heldBy(village, hearer) >= at(village.holds, hearer)) {
                return false;
            }
            put(with, n, hearer);
            if (t < at(village.deadlines, n)) {
                put(withByHour, n, hearer);
            }
            return true;
        }

        private int heldBy(Village village, int person) {
            int held = 0;
            for (int n = 0; n < village.news; n++) {
                if (at(with, n) == person) {
                    held++;
                }
            }
            return held;
        }
    }

    /** A true piece and a false one sent after it. */
    private static final class Fighting {
        static final int BOTH = 2;

        final int[] with;
        final int[] believing;
        final int[] believers;
        boolean known;

        Fighting() {
            with = new int[BOTH];
            believing = new int[BOTH];
            believers = new int[BOTH];
        }

        /** How many tellings could be done; only if all could, what is believed is told anew. */
        int doAll(Village village, Tellings tellings, int person) {
            with[0] = person;
            with[1] = person;
            believing[0] = 1 << person;
            believing[1] = 0;
            for (int i = 0; i < tellings.size; i++) {
                if (!tellings.isTimely(i, village)
                        || !tell(village, at(tellings.times, i), at(tellings.news, i))) {
                    return i;
                }
            }
            believers[0] = believing[0];
            believers[1] = believing[1];
            known = true;
            return tellings.size;
        }

        private boolean tell(Village village, int t, int n) {
            if (n < 0 || n >= BOTH) {
                return false;
            }
            int first = at(village.times.firsts, t);
            int other = at(village.times.others, t);
            if (with[n] != first && with[n] != other) {
                return false;
            }
            int hearer = with[n] == first ? other : first;
            with[n] = hearer;
            believing[n] |= 1 << hearer;
            believing[1 - n] &= ~(1 << hearer);
            return true;
        }
    }

    /**
     * An exact chance for each person: a limb ahead of the point and eight of sixteen digits
     * behind it. Each of at most 64 times brings two digits at most, so 128 are enough; limbs
     * behind those in use are zero.
     */
    private static final class Chances {
        static final int LIMBS = 9;
        static final int LIMB_DIGITS = 16;
        static final long BASE = 10000000000000000L;
        static final long BEHIND_MILLIONTHS = 10000000000L;
        /** Behind the rows of the people there are two to reckon in. */
        static final int GOING = MOST_PEOPLE;
        static final int COMING = MOST_PEOPLE + 1;
        static final int ROWS = MOST_PEOPLE + 2;

        final long[] limbs;
        int used;

        Chances() {
            limbs = new long[ROWS * LIMBS];
            used = LIMBS;
        }

        /** One has the chance 1, all others 0, and so many digits will do behind the point. */
        private void start(int person, int digits) {
            Arrays.fill(limbs, 0);
            used = Math.min(LIMBS, 1 + (Math.max(0, digits) + LIMB_DIGITS - 1) / LIMB_DIGITS);
            if (person >= 0 && person < ROWS) {
                limbs[person * LIMBS] = 1;
            }
        }

        /** Each person's greatest chance to bring a piece to one by the times from one up to another. */
        void lookBack(Times times, int barred, int to, int time, int behind) {
            start(to, behind - time);
            for (int t = behind - 1; t >= time; t--) {
                int first = at(times.firsts, t);
                int other = at(times.others, t);
                int order = compareRows(first, other);
                if (order < 0 && (barred >> other & 1) == 0) {
                    raise(first, other, at(times.chances, t));
                } else if (order > 0 && (barred >> first & 1) == 0) {
                    raise(other, first, at(times.chances, t));
                }
            }
        }

        /** Who has less gains so many tenths of what the other has more. */
        private void raise(int low, int high, int tenths) {
            copy(high, GOING);
            subtract(low, GOING);
            scale(GOING, tenths, 10);
            add(GOING, low);
        }

        /** Each person's chance to have a piece ahead of time z. */
        void goForward(Times times, int barred, int from, int t, int tenths, int z) {
            start(from, 2 * (z - t));
            for (int i = t; i < z; i++) {
                int first = at(times.firsts, i);
                int other = at(times.others, i);
                int hundredths = at(times.chances, i) * tenths;
                copy(first, GOING);
                scale(GOING, (barred >> other & 1) == 0 ? hundredths : 0, 100);
                copy(other, COMING);
                scale(COMING, (barred >> first & 1) == 0 ? hundredths : 0, 100);
                subtract(GOING, first);
                add(COMING, first);
                subtract(COMING, other);
                add(GOING, other);
            }
        }

        int compareRows(int one, int another) {
            if (one < 0 || one >= ROWS || another < 0 || another >= ROWS) {
                return 0;
            }
            for (int i = 0; i < used; i++) {
                int order = Long.compare(limbs[one * LIMBS + i], limbs[another * LIMBS + i]);
                if (order != 0) {
                    return order;
                }
            }
            return 0;
        }

        private void copy(int from, int to) {
            if (from >= 0 && from < ROWS && to >= 0 && to < ROWS) {
                System.arraycopy(limbs, from * LIMBS, limbs, to * LIMBS, used);
            }
        }

        private void add(int what, int to) {
            if (what < 0 || what >= ROWS || to < 0 || to >= ROWS) {
                return;
            }
            long carry = 0;
            for (int i = used - 1; i >= 0; i--) {
                long sum = limbs[to * LIMBS + i] + limbs[what * LIMBS + i] + carry;
                carry = sum >= BASE ? 1 : 0;
                limbs[to * LIMBS + i] = sum - carry * BASE;
            }
        }

        private void subtract(int what, int from) {
            if (what < 0 || what >= ROWS || from < 0 || from >= ROWS) {
                return;
            }
            long borrow = 0;
            for (int i = used - 1; i >= 0; i--) {
                long rest = limbs[from * LIMBS + i] - limbs[what * LIMBS + i] - borrow;
                borrow = rest < 0 ? 1 : 0;
                limbs[from * LIMBS + i] = rest + borrow * BASE;
            }
        }

        /** Multiplies first from behind, then divides from ahead; no product passes a long. */
        private void scale(int row, int factor, int divisor) {
            if (row < 0 || row >= ROWS || divisor < 1) {
                return;
            }
            long carry = 0;
            for (int i = used - 1; i > 0; i--) {
                long whole = limbs[row * LIMBS + i] * factor + carry;
                carry = whole / BASE;
                limbs[row * LIMBS + i] = whole % BASE;
            }
            limbs[row * LIMBS] = limbs[row * LIMBS] * factor + carry;
            long rest = 0;
            for (int i = 0; i < used; i++) {
                long whole = rest * BASE + limbs[row * LIMBS + i];
                rest = whole % divisor;
                limbs[row * LIMBS + i] = whole / divisor;
            }
        }

        int millionths(int row) {
            if (row < 0 || row >= ROWS) {
                return 0;
            }
            return (int) (limbs[row * LIMBS] * MILLION + limbs[row * LIMBS + 1] / BEHIND_MILLIONTHS);
        }

        int figures(int row) {
            if (row < 0 || row >= ROWS) {
                return 0;
            }
            for (int i = used - 1; i > 0; i--) {
                long limb = limbs[row * LIMBS + i];
                if (limb != 0) {
                    return i * LIMB_DIGITS - zerosAtEnd(limb);
                }
            }
            return 0;
        }

        private static int zerosAtEnd(long limb) {
            int zeros = 0;
            long rest = limb;
            while (zeros < LIMB_DIGITS && rest % 10 == 0) {
                rest /= 10;
                zeros++;
            }
            return zeros;
        }
    }

    /** A product of thousandths, exactly: a whole number and how many tens it is to be divided by. */
    private static final class Product {
        static final int LIMB_DIGITS = 15;
        static final long BASE = 1000000000000000L;
        static final int MOST_LIMBS = MOST_RING_DAYS * 3 / LIMB_DIGITS + 2;

        final long[] limbs;
        int used;
        int tens;

        Product() {
            limbs = new long[MOST_LIMBS];
        }

        void startAtOne() {
            Arrays.fill(limbs, 0);
            limbs[0] = 1;
            used = 1;
            tens = 0;
        }

        void timesThousandths(int factor) {
            if (factor == 1000) {
                return;
            }
            tens += 3;
            long carry = 0;
            for (int i = 0; i < used && i < limbs.length; i++) {
                long whole = limbs[i] * factor + carry;
                carry = whole / BASE;
                limbs[i] = whole % BASE;
            }
            if (carry > 0 && used < limbs.length) {
                limbs[used] = carry;
                used++;
            }
        }

        private long limbAt(int i) {
            return i >= 0 && i < limbs.length ? limbs[i] : 0;
        }

        int millionths() {
            if (tens <= 6) {
                return (int) (limbAt(0) * tenTo(6 - tens));
            }
            int shift = tens - 6;
            int i = shift / LIMB_DIGITS;
            int cut = shift % LIMB_DIGITS;
            return (int) (withoutDigits(limbAt(i), cut) + limbAt(i + 1) * tenTo(LIMB_DIGITS - cut));
        }

        /** Cuts one digit at a time, so that every divisor is seen to be more than 0. */
        private static long withoutDigits(long limb, int digits) {
            long rest = limb;
            for (int i = 0; i < digits; i++) {
                rest /= 10;
            }
            return rest;
        }

        private static long tenTo(int power) {
            long ten = 1;
            for (int i = 0; i < power; i++) {
                ten *= 10;
            }
            return ten;
        }
    }

    /**
     * All pieces together. A state is a number with a digit in base seven a piece: with whom it is.
     * For each state that can be there is the greatest worth of what came in time till then.
     */
    private static final class Pieces {
        static final int AT_FIRST = -1;
        static final int NEVER = MOST_TIMES;
        static final int MOST_STATES = MOST_PEOPLE * MOST_PEOPLE * MOST_PEOPLE * MOST_PEOPLE;
        static final int SETS = 1 << MOST_NEWS;
        /** For each set of pieces, the number with the digit 1 for each of them. */
        private static final int[] ONES =
            {0, 1, 7, 8, 49, 50, 56, 57, 343, 344, 350, 351, 392, 393, 399, 400};

        final int[] worth;
        final int[] reached;
        /** For each state that is reached, four bits a person: the set of pieces it has. */
        final int[] heads;
        final int[] firstWith;
        final int[] barredFrom;
        int reachedSize;
        int greatest;
        boolean changed;
        boolean known;
        // Of the meeting that passes: who meets, what each holds and may be told.
        int first;
        int other;
        int firstHolds;
        int otherHolds;
        int forFirst;
        int forOther;

        Pieces() {
            worth = new int[MOST_STATES];
            reached = new int[MOST_STATES];
            heads = new int[MOST_STATES];
            firstWith = new int[SETS * MOST_PEOPLE];
            barredFrom = new int[MOST_PEOPLE];
        }

        /** What becomes of all pieces hangs on the village alone, so it is worked out once for it. */
        void workOut(Village village) {
            if (known) {
                return;
            }
            known = true;
            start(village);
            int quiet = 0;
            for (int t = 0; t < village.times.size; t++) {
                changed = false;
                // When nothing came of any meeting of a day, nothing comes of more of them.
                if (quiet < village.meetings && village.times.isSure(t)) {
                    passMeeting(village, t);
                }
                for (int n = 0; n < village.news; n++) {
                    if (at(village.deadlines, n) == t + 1) {
                        reward(village, n);
                    }
                }
                quiet = changed ? 0 : quiet + 1;
            }
            greatest = 0;
            for (int i = 0; i < reachedSize; i++) {
                greatest = Math.max(greatest, at(worth, at(reached, i)));
            }
        }

        private void start(Village village) {
            Arrays.fill(worth, NONE);
            Arrays.fill(firstWith, NEVER);
            Arrays.fill(barredFrom, 0);
            int state = 0;
            int has = 0;
            for (int n = 0; n < village.news; n++) {
                int from = at(village.froms, n);
                state += from * at(ONES, 1 << n);
                has |= 1 << MOST_NEWS * from + n;
                for (int p = 0; p < village.people; p++) {
                    put(barredFrom, p, at(barredFrom, p) | (at(village.barred, n) >> p & 1) << n);
                }
            }
            reachedSize = 0;
            arrive(state, has, 0, AT_FIRST);
        }

        private static int setOf(int has, int person) {
            return has >> MOST_NEWS * person & SETS - 1;
        }

        /**
         * What a meeting leads to by two steps it leads to by one, so it does no harm that
         * states found by it are looked at in the same pass.
         */
        private void passMeeting(Village village, int t) {
            first = at(village.times.firsts, t);
            other = at(village.times.others, t);
            firstHolds = at(village.holds, first);
            otherHolds = at(village.holds, other);
            forFirst = ~at(barredFrom, first);
            forOther = ~at(barredFrom, other);
            int before = reachedSize;
            for (int i = 0; i < before; i++) {
                tellFrom(at(reached, i), at(heads, i), t);
            }
        }

        /** Every set of pieces that the two can tell each other, one behind the other. */
        private void tellFrom(int state, int has, int t) {
            int firstHas = setOf(has, first);
            int otherHas = setOf(has, other);
            int tellable = firstHas & forOther | otherHas & forFirst;
            int roomFirst = firstHolds - Integer.bitCount(firstHas);
            int roomOther = otherHolds - Integer.bitCount(otherHas);
            if (tellable == 0 || roomFirst + roomOther < 1) {
                return;
            }
            int value = at(worth, state);
            for (int set = tellable; set > 0; set = set - 1 & tellable) {
                int going = set & firstHas;
                int coming = set & otherHas;
                int gain = Integer.bitCount(going) - Integer.bitCount(coming);
                // With any room at all the two can take turns, so the end alone decides.
                if (gain <= roomOther && -gain <= roomFirst) {
                    arrive(state + (at(ONES, going) - at(ONES, coming)) * (other - first),
                            has ^ set << MOST_NEWS * first ^ set << MOST_NEWS * other, value, t);
                }
            }
        }

        private void arrive(int state, int has, int value, int t) {
            int before = at(worth, state);
            if (before >= value) {
                return;
            }
            changed = true;
            put(worth, state, value);
            if (before != NONE) {
                return;
            }
            put(reached, reachedSize, state);
            put(heads, reachedSize, has);
            reachedSize++;
            for (int p = 0; p < MOST_PEOPLE; p++) {
                int i = setOf(has, p) * MOST_PEOPLE + p;
                put(firstWith, i, Math.min(at(firstWith, i), t));
            }
        }

        private void reward(Village village, int n) {
            changed = true;
            int wanted = 1 << MOST_NEWS * at(village.fors, n) + n;
            for (int i = 0; i < reachedSize; i++) {
                if ((at(heads, i) & wanted) != 0) {
                    int state = at(reached, i);
                    put(worth, state, at(worth, state) + at(village.worths, n));
                }
            }
        }

        /** The least time behind which a person can have at least the pieces of a set. */
        int firstTogether(int set, int person) {
            int least = NEVER;
            for (int more = 0; more < SETS; more++) {
                if ((more & set) == set) {
                    least = Math.min(least, at(firstWith, more * MOST_PEOPLE + person));
                }
            }
            return least;
        }
    }

    /** A run as it stands ahead of a time. */
    private static final class Run {
        final int[] with;
        final int[] tellings;
        final int[] came;
        final int[] tellers;
        boolean on;
        int next;
        int living;
        long seed;

        Run() {
            with = new int[MOST_NEWS];
            tellings = new int[MOST_NEWS];
            came = new int[MOST_NEWS];
            tellers = new int[MOST_NEWS];
        }

        void start(Village village, int firstSeed) {
            on = true;
            next = 0;
            seed = firstSeed;
            living = (1 << village.people) - 1;
            for (int n = 0; n < MOST_NEWS; n++) {
                put(with, n, village.hasNews(n) ? at(village.froms, n) : NONE);
                put(tellings, n, 0);
                put(came, n, NONE);
                put(tellers, n, NONE);
            }
        }

        void copyFrom(Run other) {
            on = other.on;
            next = other.next;
            seed = other.seed;
            living = other.living;
            System.arraycopy(other.with, 0, with, 0, MOST_NEWS);
            System.arraycopy(other.tellings, 0, tellings, 0, MOST_NEWS);
            System.arraycopy(other.came, 0, came, 0, MOST_NEWS);
            System.arraycopy(other.tellers, 0, tellers, 0, MOST_NEWS);
        }

        int draw(int n) {
            seed = 1103515245L * seed + 12345 & 2147483647L;
            return n > 0 ? (int) (seed / 65536 % n) : 0;
        }

        int piecesOf(int person) {
            int set = 0;
            for (int n = 0; n < MOST_NEWS; n++) {
                if (at(with, n) == person) {
                    set |= 1 << n;
                }
            }
            return set;
        }

        void move(int n, int teller, int hearer) {
            put(with, n, hearer);
            put(tellers, n, teller);
            put(tellings, n, at(tellings, n) + 1);
        }

        void bury(int person) {
            living &= ~(1 << person);
            for (int n = 0; n < MOST_NEWS; n++) {
                if (at(with, n) == person) {
                    put(with, n, NONE);
                }
            }
        }
    }

    /** The run, its rules and what is kept of it. */
    private static final class Runner {
        static final int NOBODY = 0;
        static final int TOLD = 1;
        static final int NEAR = 2;
        static final int ANY = 3;
        static final int BACK = 4;
        static final int BEST = 5;

        final int[] kinds;
        final int[] tellsTo;
        final Chances chances;
        final Run run;
        final Run slotA;
        final Run slotB;
        final Run slotC;

        Runner(Chances chances) {
            this.chances = chances;
            kinds = new int[MOST_PEOPLE];
            tellsTo = new int[MOST_PEOPLE];
            run = new Run();
            slotA = new Run();
            slotB = new Run();
            slotC = new Run();
            Arrays.fill(kinds, ANY);
        }

        void forget() {
            Arrays.fill(kinds, ANY);
            run.on = false;
            slotA.on = false;
            slotB.on = false;
            slotC.on = false;
        }

        Run slotAt(int slot) {
            return slot == 0 ? slotA : slot == 1 ? slotB : slotC;
        }

        void passTime(Village village) {
            int t = run.next;
            if (run.draw(10) < at(village.times.chances, t)) {
                int first = at(village.times.firsts, t);
                int other = at(village.times.others, t);
                int firstHad = run.piecesOf(first);
                int otherHad = run.piecesOf(other);
                tellThose(village, firstHad, first, other);
                tellThose(village, otherHad, other, first);
            }
            run.next = t + 1;
            if (village.isLastOfDay(t)) {
                passNight(village);
            }
        }

        private void passNight(Village village) {
            for (int p = 0; p < village.people; p++) {
                if ((run.living >> p & 1) == 1 && run.draw(1000) < at(village.dies, p)) {
                    run.bury(p);
                }
            }
        }

        private void tellThose(Village village, int had, int teller, int hearer) {
            for (int n = 0; n < village.news; n++) {
                if ((had >> n & 1) == 1 && mayTell(village, n, teller, hearer)
                        && wantsToTell(village, n, teller, hearer)) {
                    run.move(n, teller, hearer);
                    if (hearer == at(village.fors, n) && at(run.came, n) == NONE) {
                        put(run.came, n, run.next);
                    }
                }
            }
        }

        private boolean mayTell(Village village, int n, int teller, int hearer) {
            return teller != at(village.fors, n)
                    && (run.living >> teller & 1) == 1
                    && (run.living >> hearer & 1) == 1
                    && (at(village.barred, n) >> hearer & 1) == 0
                    && Integer.bitCount(run.piecesOf(hearer)) < at(village.holds, hearer);
        }

        private boolean wantsToTell(Village village, int n, int teller, int hearer) {
            Times times = village.times;
            int barred = at(village.barred, n);
            int to = at(village.fors, n);
            int behind = run.next + 1;
            switch (at(kinds, teller)) {
                case TOLD:
                    return hearer == at(tellsTo, teller);
                case NEAR:
                    int his = times.soonest(barred, hearer, to, behind);
                    int own = times.soonest(barred, teller, to, behind);
                    return hearer == to || his != NONE && (own == NONE || his < own);
                case ANY:
                    return true;
                case BACK:
                    return hearer == at(run.tellers, n);
                case BEST:
                    chances.lookBack(times, barred, to, behind, at(village.deadlines, n));
                    return hearer == to || chances.compareRows(hearer, teller) > 0;
                default:
                    return false;
            }
        }
    }
}
