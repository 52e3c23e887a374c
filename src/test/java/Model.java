import java.math.BigDecimal;
import java.math.BigInteger;
import java.math.RoundingMode;
import java.util.ArrayDeque;
import java.util.ArrayList;
import java.util.Arrays;
import java.util.Collections;
import java.util.HashMap;
import java.util.HashSet;
import java.util.List;
import java.util.Map;
import java.util.Set;
import java.util.TreeMap;

/**
 * The document told a second time, slowly and with the Java library, so that both can be compared.
 * It searches where OneHead reckons, and shares no code with it.
 */
final class Model {
    record Person(String name, int holds, int dies) { }

    record Meeting(int a, int b, int hour, int chance) { }

    record News(int from, int to, int hour, int worth, Set<Integer> barred) { }

    record Time(int hour, int meeting) { }

    record Token(String text, int place, boolean fine) {
        boolean isWord() {
            return fine && text.matches("[a-z]+");
        }

        boolean isNumber() {
            return fine && text.matches("[0-9]+");
        }
    }

    static final class Fault extends RuntimeException {
        private static final long serialVersionUID = 1;

        final int kind;
        final int place;

        Fault(int kind, int place) {
            super(null, null, false, false);
            this.kind = kind;
            this.place = place;
        }
    }

    static final class Run implements Cloneable {
        int next;
        long seed;
        Set<Integer> dead = new HashSet<>();
        Map<Integer, Integer> with = new TreeMap<>();
        Map<Integer, Integer> teller = new HashMap<>();
        Map<Integer, Integer> came = new HashMap<>();
        int[] often = new int[4];

        Run again() {
            Run r = new Run();
            r.next = next;
            r.seed = seed;
            r.dead.addAll(dead);
            r.with.putAll(with);
            r.teller.putAll(teller);
            r.came.putAll(came);
            r.often = often.clone();
            return r;
        }

        int draw(int n) {
            seed = BigInteger.valueOf(seed).multiply(BigInteger.valueOf(1103515245))
                    .add(BigInteger.valueOf(12345)).mod(BigInteger.valueOf(2147483648L)).longValue();
            return (int) (seed / 65536 % n);
        }
    }

    private StringBuilder tape = new StringBuilder();
    private List<Person> people = new ArrayList<>();
    private List<Meeting> meetings = new ArrayList<>();
    private List<News> news = new ArrayList<>();
    private List<Time> times = new ArrayList<>();
    private int clauses;
    private int faultKind;
    private int faultPlace = -1;
    private List<Integer> judgedWith;
    private List<Boolean> judgedInTime;
    private int[] believers;
    private int[] kinds = new int[7];
    private int[] ks = new int[7];
    private Run run;
    private Run[] slots = new Run[3];

    Model() {
        Arrays.fill(kinds, 3);
    }

    int feed(int... ints) {
        if (tape.length() + 20 > 900) {
            return -3;
        }
        for (int i : ints) {
            tape.append((char) (i >>> 24)).append((char) (i >>> 16 & 255))
                    .append((char) (i >>> 8 & 255)).append((char) (i & 255));
        }
        return tape.length();
    }

    int end(int n) {
        if (n < 0 || n > tape.length()) {
            return -1;
        }
        tape.setLength(n);
        return n;
    }

    private String readTape() {
        String text = tape.toString();
        tape.setLength(0);
        return text;
    }

    private static List<Token> tokens(String text) {
        List<Token> found = new ArrayList<>();
        java.util.regex.Matcher m =
                java.util.regex.Pattern.compile("[a-z]+|[0-9]+|;|[ \n]+|(?s:.)").matcher(text);
        while (m.find()) {
            String t = m.group();
            if (!t.isEmpty() && t.charAt(0) != ' ' && t.charAt(0) != '\n') {
                found.add(new Token(t, m.start(), t.matches("[a-z]{1,8}|[0-9]{1,3}|;")));
            }
        }
        found.add(new Token("", text.length(), false));
        return found;
    }

    /** The village being read, clause by clause. */
    private final class Reading {
        final List<Person> ps = new ArrayList<>();
        final List<Meeting> ms = new ArrayList<>();
        final List<News> ns = new ArrayList<>();
        final List<Token> tokens;
        int i;
        int read;

        Reading(String text) {
            tokens = tokens(text);
        }

        void all() {
            while (!tokens.get(i).text.isEmpty()) {
                clause();
                read++;
            }
        }

        void clause() {
            Token key = tokens.get(i);
            switch (key.text) {
                case "person" -> {
                    roomFor(ps.size() < 7);
                    String name = word();
                    if (ps.stream().anyMatch(p -> p.name.equals(name))) {
                        throw new Fault(3, tokens.get(i).place);
                    }
                    int holds = number(1, 3);
                    int dies = tokens.get(i + 1).text.equals("dies") ? skipAndNumber(0, 500) : 0;
                    ps.add(new Person(name, holds, dies));
                }
                case "meet" -> {
                    roomFor(ms.size() < 16);
                    int a = person(-1);
                    int b = person(a);
                    int hour = number(0, 23);
                    int chance = tokens.get(i + 1).text.equals("chance") ? skipAndNumber(1, 10) : 10;
                    ms.add(new Meeting(a, b, hour, chance));
                }
                case "news" -> {
                    roomFor(ns.size() < 4);
                    int a = person(-1);
                    roomFor(ns.stream().filter(n -> n.from == a).count() < ps.get(a).holds);
                    int b = person(a);
                    ns.add(new News(a, b, number(0, 95), number(0, 99), new HashSet<>()));
                }
                case "bar" -> {
                    int a = person(-1);
                    int n = number(0, ns.size() - 1);
                    if (ns.get(n).from == a || !ns.get(n).barred.add(a)) {
                        throw new Fault(3, tokens.get(i).place);
                    }
                }
                default -> throw new Fault(1, key.place);
            }
            i++;
            if (!tokens.get(i).text.equals(";")) {
                throw new Fault(1, tokens.get(i).place);
            }
            i++;
        }

        void roomFor(boolean there) {
            if (!there) {
                throw new Fault(4, tokens.get(i).place);
            }
        }

        String word() {
            i++;
            if (!tokens.get(i).isWord()) {
                throw new Fault(1, tokens.get(i).place);
            }
            return tokens.get(i).text;
        }

        int person(int but) {
            String name = word();
            for (int p = 0; p < ps.size(); p++) {
                if (ps.get(p).name.equals(name)) {
                    if (p == but) {
                        throw new Fault(3, tokens.get(i).place);
                    }
                    return p;
                }
            }
            throw new Fault(5, tokens.get(i).place);
        }

        int number(int least, int most) {
            i++;
            if (!tokens.get(i).isNumber()) {
                throw new Fault(1, tokens.get(i).place);
            }
            int n = Integer.parseInt(tokens.get(i).text);
            if (n < least || n > most) {
                throw new Fault(2, tokens.get(i).place);
            }
            return n;
        }

        int skipAndNumber(int least, int most) {
            i++;
            return number(least, most);
        }
    }

    int village() {
        Reading r = new Reading(readTape());
        faultKind = 0;
        faultPlace = -1;
        try {
            r.all();
        } catch (Fault f) {
            faultKind = f.kind;
            faultPlace = f.place;
            return -1;
        }
        people = r.ps;
        meetings = r.ms;
        news = r.ns;
        clauses = r.read;
        times = new ArrayList<>();
        for (int day = 0; day < 4; day++) {
            List<Time> ofDay = new ArrayList<>();
            for (int m = 0; m < meetings.size(); m++) {
                ofDay.add(new Time(day * 24 + meetings.get(m).hour, m));
            }
            ofDay.sort((x, y) -> x.hour != y.hour ? x.hour - y.hour : x.meeting - y.meeting);
            times.addAll(ofDay);
        }
        Arrays.fill(kinds, 3);
        run = null;
        slots = new Run[3];
        judgedWith = null;
        believers = null;
        return clauses;
    }

    int fault(int what) {
        return what == 0 ? faultKind : what == 1 ? faultPlace : -1;
    }

    int told(int what) {
        Map<Integer, Integer> table = new HashMap<>();
        table.put(0, people.size());
        table.put(1, meetings.size());
        table.put(2, news.size());
        table.put(3, times.size());
        for (int p = 0; p < people.size(); p++) {
            table.put(10 + p, people.get(p).holds);
            table.put(20 + p, people.get(p).dies);
        }
        for (int n = 0; n < news.size(); n++) {
            News x = news.get(n);
            table.put(30 + n, x.from);
            table.put(40 + n, x.to);
            table.put(50 + n, x.hour);
            table.put(60 + n, x.worth);
            table.put(70 + n, bits(x.barred));
        }
        return table.getOrDefault(what, -1);
    }

    private static int bits(Set<Integer> set) {
        return set.stream().mapToInt(p -> 1 << p).sum();
    }

    int meeting(int m, int what) {
        if (m < 0 || m >= meetings.size() || what < 0 || what > 3) {
            return -2;
        }
        Meeting x = meetings.get(m);
        return new int[] {x.a, x.b, x.hour, x.chance}[what];
    }

    int time(int t, int what) {
        if (t < 0 || t >= times.size() || what < 0 || what > 1) {
            return -2;
        }
        return what == 0 ? times.get(t).hour : times.get(t).meeting;
    }

    private Meeting at(int t) {
        return meetings.get(times.get(t).meeting);
    }

    /** Null where the text is no row of tellings. */
    private static List<int[]> tellings(String text) {
        List<int[]> row = new ArrayList<>();
        List<Token> tokens = tokens(text);
        int i = 0;
        while (!tokens.get(i).text.isEmpty()) {
            if (!tokens.get(i).isNumber() || !tokens.get(i + 1).isNumber()
                    || !tokens.get(i + 2).text.equals(";")) {
                return null;
            }
            int[] telling = {Integer.parseInt(tokens.get(i).text), Integer.parseInt(tokens.get(i + 1).text)};
            if (telling[0] > 63 || telling[1] > 3) {
                return null;
            }
            row.add(telling);
            i += 3;
        }
        return row;
    }

    int judge() {
        List<int[]> row = tellings(readTape());
        if (row == null) {
            return -1000;
        }
        List<List<Integer>> behind = new ArrayList<>();
        List<Integer> with = new ArrayList<>();
        news.forEach(n -> with.add(n.from));
        behind.add(new ArrayList<>(with));
        int done = 0;
        for (int[] telling : row) {
            boolean early = done > 0 && telling[0] < row.get(done - 1)[0];
            if (early || telling[0] >= times.size() || telling[1] >= news.size()) {
                break;
            }
            Meeting m = at(telling[0]);
            int n = telling[1];
            int teller = with.get(n);
            if (teller != m.a && teller != m.b) {
                break;
            }
            int hearer = m.a + m.b - teller;
            if (news.get(n).barred.contains(hearer)
                    || Collections.frequency(with, hearer) >= people.get(hearer).holds) {
                break;
            }
            with.set(n, hearer);
            behind.add(new ArrayList<>(with));
            done++;
        }
        judgedWith = with;
        judgedInTime = new ArrayList<>();
        for (int n = 0; n < news.size(); n++) {
            int upTo = 0;
            while (upTo < done && times.get(row.get(upTo)[0]).hour <= news.get(n).hour) {
                upTo++;
            }
            judgedInTime.add(behind.get(upTo).get(n) == news.get(n).to);
        }
        return done == row.size() ? done : -1 - done;
    }

    int judged(int n, int what) {
        if (n < 0 || n >= news.size()) {
            return -2;
        }
        if (judgedWith == null || what < 0 || what > 1) {
            return -1;
        }
        return what == 0 ? judgedWith.get(n) : judgedInTime.get(n) ? 1 : 0;
    }

    private boolean wrong(int n, int from, int to, int time) {
        return n < 0 || n >= news.size() || from < 0 || from >= people.size()
                || to < 0 || to >= people.size() || time < 0 || time > times.size();
    }

    /** Every time behind which it can be, by telling or not at each time. */
    private int soonBy(Set<Integer> barred, int from, int to, int time) {
        Set<Integer> holders = new HashSet<>(Set.of(from));
        for (int t = time; t < times.size(); t++) {
            Meeting m = at(t);
            Set<Integer> more = new HashSet<>(holders);
            for (int h : holders) {
                if (m.chance == 10 && (h == m.a || h == m.b) && !barred.contains(m.a + m.b - h)) {
                    more.add(m.a + m.b - h);
                }
            }
            holders = more;
            if (holders.contains(to)) {
                return t;
            }
        }
        return -1;
    }

    int soon(int n, int from, int to, int time) {
        if (wrong(n, from, to, time)) {
            return -2;
        }
        return from == to ? -4 : soonBy(news.get(n).barred, from, to, time);
    }

    private BigDecimal surestBy(int n, int from, int to, int time, int hour) {
        return surestBy(n, from, to, time, hour, new HashMap<>());
    }

    private BigDecimal surestBy(int n, int p, int to, int t, int hour, Map<Integer, BigDecimal> memo) {
        if (t >= times.size() || times.get(t).hour > hour) {
            return p == to ? BigDecimal.ONE : BigDecimal.ZERO;
        }
        BigDecimal known = memo.get(t * 7 + p);
        if (known != null) {
            return known;
        }
        Meeting m = at(t);
        BigDecimal kept = surestBy(n, p, to, t + 1, hour, memo);
        BigDecimal best = kept;
        if (p == m.a || p == m.b) {
            int q = m.a + m.b - p;
            if (!news.get(n).barred.contains(q)) {
                best = best.max(surestBy(n, q, to, t + 1, hour, memo));
            }
        }
        BigDecimal chance = BigDecimal.valueOf(m.chance, 1);
        BigDecimal sum = best.multiply(chance).add(kept.multiply(BigDecimal.ONE.subtract(chance)));
        memo.put(t * 7 + p, sum);
        return sum;
    }

    private static int millionths(BigDecimal x) {
        return x.movePointRight(6).setScale(0, RoundingMode.DOWN).intValueExact();
    }

    int surest(int n, int from, int to, int time, int hour, int what) {
        if (wrong(n, from, to, time) || hour < 0 || hour > 95 || what < 0 || what > 1) {
            return -2;
        }
        BigDecimal x = surestBy(n, from, to, time, hour);
        return what == 0 ? millionths(x) : x.signum() == 0 ? 0 : Math.max(0, x.stripTrailingZeros().scale());
    }

    int bars(int n, int from, int to, int time) {
        if (wrong(n, from, to, time) || from == to) {
            return -2;
        }
        int found = 0;
        for (int p = 0; p < people.size(); p++) {
            Set<Integer> barred = new HashSet<>(news.get(n).barred);
            barred.add(p);
            if (p != from && p != to && soonBy(news.get(n).barred, from, to, time) != -1
                    && soonBy(barred, from, to, time) == -1) {
                found += 1 << p;
            }
        }
        return found;
    }

    /** All rows that one meeting can lead to, telling piece by piece. */
    private Set<List<Integer>> behindMeeting(List<Integer> with, Meeting m) {
        Set<List<Integer>> ends = new HashSet<>();
        Set<List<Integer>> seen = new HashSet<>();
        ArrayDeque<List<Integer>> open = new ArrayDeque<>();
        List<Integer> start = new ArrayList<>(with);
        start.add(0);
        open.add(start);
        seen.add(start);
        while (!open.isEmpty()) {
            List<Integer> state = open.poll();
            int used = state.get(with.size());
            List<Integer> places = state.subList(0, with.size());
            ends.add(new ArrayList<>(places));
            for (int n = 0; n < with.size(); n++) {
                int teller = state.get(n);
                if ((used >> n & 1) == 1 || teller != m.a && teller != m.b) {
                    continue;
                }
                int hearer = m.a + m.b - teller;
                if (news.get(n).barred.contains(hearer)
                        || Collections.frequency(places, hearer) >= people.get(hearer).holds) {
                    continue;
                }
                List<Integer> next = new ArrayList<>(state);
                next.set(n, hearer);
                next.set(with.size(), used | 1 << n);
                if (seen.add(next)) {
                    open.add(next);
                }
            }
        }
        return ends;
    }

    private Map<List<Integer>, Integer> worths;
    private List<Set<List<Integer>>> reachable;
    private List<News> workedOutFor;

    private void workOut() {
        if (workedOutFor == news && worths != null) {
            return;
        }
        workedOutFor = news;
        List<Integer> start = new ArrayList<>();
        news.forEach(n -> start.add(n.from));
        worths = new HashMap<>(Map.of(start, 0));
        reachable = new ArrayList<>();
        for (int hour = 0; hour < 96; hour++) {
            for (Time time : times) {
                if (time.hour == hour) {
                    Meeting m = meetings.get(time.meeting);
                    Map<List<Integer>, Integer> next = new HashMap<>();
                    worths.forEach((with, worth) -> {
                        for (List<Integer> end : m.chance == 10 ? behindMeeting(with, m) : Set.of(with)) {
                            next.merge(end, worth, Math::max);
                        }
                    });
                    worths = next;
                    reachable.add(new HashSet<>(next.keySet()));
                }
            }
            for (int n = 0; n < news.size(); n++) {
                if (news.get(n).hour == hour) {
                    int piece = n;
                    worths.replaceAll((with, worth) -> worth
                            + (with.get(piece) == news.get(piece).to ? news.get(piece).worth : 0));
                }
            }
        }
    }

    int all(int what) {
        if (what == 0) {
            workOut();
            return Collections.max(worths.values());
        }
        if (what != 1) {
            return -2;
        }
        int sum = 0;
        for (News x : news) {
            int came = soonBy(x.barred, x.from, x.to, 0);
            sum += came >= 0 && times.get(came).hour <= x.hour ? x.worth : 0;
        }
        return sum;
    }

    int together(int set, int person) {
        if (set < 1 || set > (1 << news.size()) - 1 || person < 0 || person >= people.size()) {
            return -2;
        }
        List<Integer> wanted = new ArrayList<>();
        boolean there = true;
        for (int n = 0; n < news.size(); n++) {
            if ((set >> n & 1) == 1) {
                wanted.add(n);
                there &= news.get(n).from == person;
            }
        }
        if (there) {
            return -4;
        }
        workOut();
        for (int t = 0; t < times.size(); t++) {
            for (List<Integer> with : reachable.get(t)) {
                if (wanted.stream().allMatch(n -> with.get(n) == person)) {
                    return t;
                }
            }
        }
        return -1;
    }

    private List<Integer> rowOfPeople() {
        List<Integer> row = new ArrayList<>();
        for (char c : readTape().toCharArray()) {
            if (c < '0' || c >= '0' + people.size()) {
                return List.of();
            }
            row.add(c - '0');
        }
        return row;
    }

    int reply(int time) {
        List<Integer> row = rowOfPeople();
        if (time < 0 || time > times.size()) {
            return -2;
        }
        for (int i = 1; i < row.size(); i++) {
            if (row.get(i).equals(row.get(i - 1))) {
                return -1;
            }
        }
        if (row.size() < 2) {
            return -1;
        }
        int place = row.size() - 1;
        for (int t = time; t < times.size(); t++) {
            Meeting m = at(t);
            if (m.chance == 10 && Set.of(m.a, m.b).equals(Set.of(row.get(place), row.get(place - 1)))) {
                place--;
                if (place == 0) {
                    return t;
                }
            }
        }
        return -1;
    }

    int ring(int d) {
        List<Integer> row = rowOfPeople();
        if (d < 0 || d > 400) {
            return -2;
        }
        if (row.isEmpty() || new HashSet<>(row).size() < row.size()) {
            return -1;
        }
        BigInteger product = BigInteger.valueOf(1000000);
        for (int day = 0; day < d; day++) {
            product = product.multiply(BigInteger.valueOf(1000 - people.get(row.get(day % row.size())).dies));
        }
        return product.divide(BigInteger.valueOf(1000).pow(d)).intValueExact();
    }

    int bestRing(int n) {
        if (n < 1 || n > people.size()) {
            return -2;
        }
        BigInteger best = BigInteger.ZERO;
        int bits = 0;
        for (int set = 0; set < 1 << people.size(); set++) {
            if (Integer.bitCount(set) == n) {
                BigInteger product = BigInteger.ONE;
                for (int p = 0; p < people.size(); p++) {
                    if ((set >> p & 1) == 1) {
                        product = product.multiply(BigInteger.valueOf(1000 - people.get(p).dies));
                    }
                }
                if (product.compareTo(best) > 0) {
                    best = product;
                    bits = set;
                }
            }
        }
        return bits;
    }

    private BigDecimal[] spread(int n, int from, int t, int u, int z) {
        BigDecimal[] chance = new BigDecimal[people.size()];
        Arrays.fill(chance, BigDecimal.ZERO);
        chance[from] = BigDecimal.ONE;
        for (int i = t; i < z; i++) {
            Meeting m = at(i);
            BigDecimal[] next = chance.clone();
            for (int teller : new int[] {m.a, m.b}) {
                int hearer = m.a + m.b - teller;
                if (!news.get(n).barred.contains(hearer)) {
                    BigDecimal moved = chance[teller].multiply(BigDecimal.valueOf(m.chance * u, 2));
                    next[teller] = next[teller].subtract(moved);
                    next[hearer] = next[hearer].add(moved);
                }
            }
            chance = next;
        }
        return chance;
    }

    private boolean wrongSpread(int n, int from, int t, int u, int z) {
        return n < 0 || n >= news.size() || from < 0 || from >= people.size()
                || t < 0 || z < t || z > times.size() || u < 0 || u > 10;
    }

    int where(int n, int from, int t, int u, int z, int person) {
        if (wrongSpread(n, from, t, u, z) || person < 0 || person >= people.size()) {
            return -2;
        }
        return millionths(spread(n, from, t, u, z)[person]);
    }

    int ask(int n, int from, int t, int u, int z) {
        if (wrongSpread(n, from, t, u, z)) {
            return -2;
        }
        List<BigDecimal> chance = Arrays.asList(spread(n, from, t, u, z));
        BigDecimal most = Collections.max(chance);
        for (int p = 0; p < people.size(); p++) {
            if (chance.get(p).compareTo(most) == 0) {
                return p;
            }
        }
        return -99;
    }

    int fight(int person) {
        List<int[]> row = tellings(readTape());
        if (person < 0 || person >= people.size()) {
            return -2000;
        }
        if (row == null) {
            return -1000;
        }
        int[] with = {person, person};
        Map<Integer, Integer> believes = new HashMap<>(Map.of(person, 0));
        int last = 0;
        for (int i = 0; i < row.size(); i++) {
            int t = row.get(i)[0];
            int n = row.get(i)[1];
            if (t < last || t >= times.size() || n > 1 || with[n] != at(t).a && with[n] != at(t).b) {
                return -1 - i;
            }
            with[n] = at(t).a + at(t).b - with[n];
            believes.put(with[n], n);
            last = t;
        }
        believers = new int[2];
        believes.forEach((p, n) -> believers[n] += 1 << p);
        return row.size();
    }

    int believe(int which) {
        return believers == null || which < 0 || which > 1 ? -1 : believers[which];
    }

    int rule(int person, int kind, int k) {
        if (person < 0 || person >= people.size() || kind < 0 || kind > 5
                || kind == 1 && (k < 0 || k >= people.size())) {
            return -2;
        }
        int before = kinds[person];
        kinds[person] = kind;
        ks[person] = k;
        return before;
    }

    int begin(int seed) {
        if (seed < 0) {
            return -2;
        }
        run = new Run();
        run.seed = seed;
        for (int n = 0; n < news.size(); n++) {
            run.with.put(n, news.get(n).from);
        }
        return 1;
    }

    int go(int count) {
        if (count < 0 || count > 64) {
            return -2;
        }
        if (run == null) {
            return -4;
        }
        if (run.next + count > times.size()) {
            return -2;
        }
        for (int i = 0; i < count; i++) {
            pass();
        }
        return run.next;
    }

    private void pass() {
        int t = run.next;
        Meeting m = at(t);
        if (run.draw(10) < m.chance) {
            Map<Integer, Integer> before = new TreeMap<>(run.with);
            for (int teller : new int[] {m.a, m.b}) {
                int hearer = m.a + m.b - teller;
                before.forEach((n, with) -> {
                    if (with == teller && may(n, teller, hearer) && wants(n, teller, hearer, t)) {
                        run.with.put(n, hearer);
                        run.teller.put(n, teller);
                        run.often[n]++;
                        if (hearer == news.get(n).to) {
                            run.came.putIfAbsent(n, t);
                        }
                    }
                });
            }
        }
        run.next++;
        boolean lastOfDay = t + 1 == times.size() || times.get(t + 1).hour / 24 > times.get(t).hour / 24;
        for (int p = 0; lastOfDay && p < people.size(); p++) {
            if (!run.dead.contains(p) && run.draw(1000) < people.get(p).dies) {
                run.dead.add(p);
                int dead = p;
                run.with.values().removeIf(with -> with == dead);
            }
        }
    }

    private boolean may(int n, int teller, int hearer) {
        return news.get(n).to != teller && !run.dead.contains(teller) && !run.dead.contains(hearer)
                && !news.get(n).barred.contains(hearer)
                && Collections.frequency(run.with.values(), hearer) < people.get(hearer).holds;
    }

    private boolean wants(int n, int teller, int hearer, int t) {
        News x = news.get(n);
        return switch (kinds[teller]) {
            case 0 -> false;
            case 1 -> ks[teller] == hearer;
            case 2 -> {
                int own = soonBy(x.barred, teller, x.to, t + 1);
                int his = soonBy(x.barred, hearer, x.to, t + 1);
                yield hearer == x.to || (his < 0 ? 999 : his) < (own < 0 ? 999 : own);
            }
            case 3 -> true;
            case 4 -> run.teller.getOrDefault(n, -1) == hearer;
            default -> hearer == x.to || surestBy(n, hearer, x.to, t + 1, x.hour)
                    .compareTo(surestBy(n, teller, x.to, t + 1, x.hour)) > 0;
        };
    }

    int now(int n, int what) {
        if (n < 0 || n >= news.size() || what < 0 || what > 2) {
            return -2;
        }
        if (run == null) {
            return -1;
        }
        return what == 0 ? run.with.getOrDefault(n, -1)
                : what == 1 ? run.often[n] : run.came.getOrDefault(n, -1);
    }

    int head(int person, int what) {
        if (person < 0 || person >= people.size() || what < 0 || what > 1) {
            return -2;
        }
        if (run == null) {
            return -1;
        }
        return what == 0 ? Collections.frequency(run.with.values(), person)
                : run.dead.contains(person) ? 0 : 1;
    }

    int keep(int slot) {
        if (slot < 0 || slot > 2) {
            return -2;
        }
        if (run == null) {
            return -4;
        }
        slots[slot] = run.again();
        return run.next;
    }

    int take(int slot) {
        if (slot < 0 || slot > 2) {
            return -2;
        }
        if (slots[slot] == null) {
            return -4;
        }
        run = slots[slot].again();
        return run.next;
    }

    int count(int what) {
        return what == 0 ? clauses : what == 1 ? tape.length() : -1;
    }
}
