import java.util.ArrayList;
import java.util.List;
import java.util.Random;

/** Long runs of calls by chance, told to OneHead and to the Model: each answer must be the same. */
public final class AgainstModel {
    private static final String[] NAMES = {"a", "b", "c", "dd", "person", "meet", "abcdefgh", "dies", "z"};
    /** What an object answers behind its 512th call is free; no step makes more than a hundred calls, no village more than that. */
    private static final int ENOUGH = 410;
    private static int wrong = 0;
    private static long calls = 0;
    private static int most = 0;

    private final Random chance;
    private final int run;
    private OneHead x = new OneHead();
    private Model y = new Model();
    private final List<String> told = new ArrayList<>();

    private AgainstModel(int run) {
        this.run = run;
        chance = new Random(run);
    }

    public static void main(String[] args) {
        int runs = args.length > 0 ? Integer.parseInt(args[0]) : 10000;
        for (int run = 0; run < runs && wrong == 0; run++) {
            new AgainstModel(run).go();
        }
        if (most > 512) {
            wrong++;
            System.out.println(most + " calls of one object are too many");
        }
        System.out.println(calls + " calls, " + wrong + " answers are not as due");
        if (wrong != 0) {
            System.exit(1);
        }
    }

    private void same(String call, int got, int due) {
        calls++;
        told.add(call + " -> " + got);
        most = Math.max(most, told.size());
        if (got != due) {
            wrong++;
            System.out.println("run " + run + ": " + call + " answered " + got + ", due is " + due);
            told.subList(Math.max(0, told.size() - 60), told.size()).forEach(System.out::println);
        }
    }

    private int below(int n) {
        return chance.nextInt(n);
    }

    /** A number that mostly can be, and at times is just beside it or far off. */
    private int about(int n) {
        int kind = below(45);
        return kind == 0 ? -1 : kind == 1 ? n : kind == 2 ? chance.nextInt() : n > 0 ? below(n) : 0;
    }

    private void feed(String text) {
        same("end(0)", x.end(0), y.end(0));
        int whole = 0;
        for (int i = 0; i < text.length(); i += 20) {
            int[] five = new int[5];
            for (int j = 0; j < 20; j++) {
                five[j / 4] |= (i + j < text.length() ? text.charAt(i + j) : ' ') << 24 - j % 4 * 8;
            }
            int got = x.feed(five[0], five[1], five[2], five[3], five[4]);
            whole = y.feed(five);
            same("feed(\"" + text.substring(i, Math.min(text.length(), i + 20)) + "\")", got, whole);
        }
        int length = Math.min(text.length(), whole < 0 ? 900 : whole);
        same("end(" + length + ")", x.end(length), y.end(length));
    }

    private String blanks() {
        int kind = below(12);
        return kind == 0 ? "  " : kind == 1 ? "\n" : kind == 2 ? " \n " : " ";
    }

    private String village() {
        int people = below(12) == 0 ? below(9) : 2 + below(6);
        int meetings = below(12) == 0 ? below(18) : 1 + below(people < 2 ? 1 : 16);
        int news = below(12) == 0 ? below(6) : 1 + below(4);
        int byChance = below(4);
        StringBuilder s = new StringBuilder();
        int[] holds = new int[people];
        for (int p = 0; p < people; p++) {
            holds[p] = 1 + below(3);
            s.append("person").append(blanks()).append(NAMES[p]).append(blanks()).append(holds[p]);
            if (below(2) == 0) {
                s.append(below(4) == 0 ? "dies " : " dies ").append(below(3) == 0 ? below(501) : below(120));
            }
            s.append(below(5) == 0 ? " ;" : ";");
        }
        for (int m = 0; m < meetings && people > 1; m++) {
            int a = below(people);
            int b = below(60) == 0 ? a : (a + 1 + below(people - 1)) % people;
            s.append("meet ").append(NAMES[a]).append(blanks()).append(NAMES[b]).append(blanks()).append(below(24));
            if (below(3) < byChance) {
                s.append(" chance ").append(1 + below(10));
            }
            s.append(";").append(below(6) == 0 ? " " : "");
        }
        int[] from = new int[people];
        for (int n = 0; n < news && people > 1; n++) {
            int a = below(people);
            while (from[a] >= holds[a] && below(30) != 0) {
                a = below(people);
            }
            from[a]++;
            int b = (a + 1 + below(people - 1)) % people;
            s.append("news ").append(NAMES[a]).append(" ").append(NAMES[b]).append(" ").append(below(96))
                    .append(" ").append(below(100)).append(";");
            if (below(3) == 0) {
                int c = (a + 1 + below(people - 1)) % people;
                s.append("bar ").append(NAMES[c]).append(" ").append(below(9) == 0 ? below(n + 2) : n).append(";");
            }
        }
        return s.toString();
    }

    private String spoilt(String text) {
        if (text.isEmpty()) {
            return ";";
        }
        StringBuilder s = new StringBuilder(text);
        int i = below(s.length());
        switch (below(5)) {
            case 0 -> s.deleteCharAt(i);
            case 1 -> s.insert(i, "abcnmz0129;; \nA!".charAt(below(16)));
            case 2 -> s.setCharAt(i, (char) below(256));
            case 3 -> s.setLength(i);
            default -> {
                int from = below(s.length());
                s.insert(i, s.substring(from, Math.min(s.length(), from + below(12))));
            }
        }
        return s.toString();
    }

    private String tellings(boolean fight) {
        StringBuilder s = new StringBuilder();
        int times = y.told(3);
        int t = 0;
        for (int i = below(14); i > 0 && times > 0; i--) {
            t = below(40) == 0 ? below(64) : Math.min(63, t + below(1 + times / 8));
            s.append(t).append(" ").append(below(fight ? 2 : Math.max(1, y.told(2)))).append(";");
        }
        return below(25) == 0 ? spoilt(s.toString()) : s.toString();
    }

    /** Tellings of which each can be, found by asking the model. */
    private String likelyTellings(boolean fight, int person) {
        String row = "";
        int times = y.told(3);
        int t = 0;
        for (int tries = 0; tries < 12 && times > 0; tries++) {
            t = Math.min(times - 1, t + below(3));
            String longer = row + t + " " + below(fight ? 2 : Math.max(1, y.told(2))) + ";";
            feed(longer);
            int got = fight ? x.fight(person) : x.judge();
            int due = fight ? y.fight(person) : y.judge();
            same(fight ? "fight(" + person + ")" : "judge()", got, due);
            if (got >= 0) {
                row = longer;
            }
        }
        return row;
    }

    private String peopleRow(boolean ring) {
        StringBuilder s = new StringBuilder();
        int people = Math.max(1, y.told(0));
        for (int i = below(6); i >= 0; i--) {
            char next = (char) ('0' + below(people));
            if (below(25) == 0 || (ring ? s.indexOf("" + next) < 0
                    : s.length() == 0 || s.charAt(s.length() - 1) != next)) {
                s.append(next);
            }
        }
        return below(25) == 0 ? spoilt(s.toString()) : s.toString();
    }

    private void go() {
        if (below(4) == 0) {
            some(12);
        }
        for (int i = 1 + below(4); i > 0 && told.size() < ENOUGH; i--) {
            String text = village();
            feed(below(6) == 0 ? spoilt(text) : text);
            if (below(9) == 0) {
                same("count(1)", x.count(1), y.count(1));
            }
            same("village()", x.village(), y.village());
            for (int what = -1; what < 3; what++) {
                same("fault(" + what + ")", x.fault(what), y.fault(what));
                same("count(" + what + ")", x.count(what), y.count(what));
            }
            for (int what = -2; what < 90; what += 1 + below(3)) {
                same("told(" + what + ")", x.told(what), y.told(what));
            }
            some(10 + below(150));
        }
    }

    private void some(int calls) {
        for (int i = 0; i < calls && wrong == 0 && told.size() < ENOUGH; i++) {
            switch (below(7)) {
                case 0 -> plain();
                case 1 -> row();
                case 2, 3 -> onePiece();
                case 4 -> allPieces();
                default -> runs();
            }
        }
    }

    private void plain() {
        int a = about(17);
        int b = about(4);
        same("meeting(" + a + ", " + b + ")", x.meeting(a, b), y.meeting(a, b));
        int t = about(65);
        same("time(" + t + ", " + b + ")", x.time(t, b), y.time(t, b));
        int w = about(80);
        same("told(" + w + ")", x.told(w), y.told(w));
        int n = about(901);
        if (below(5) == 0) {
            same("end(" + n + ")", x.end(n), y.end(n));
        }
        same("count(1)", x.count(1), y.count(1));
    }

    private void row() {
        int p = about(y.told(0));
        switch (below(6)) {
            case 0 -> {
                feed(tellings(false));
                same("judge()", x.judge(), y.judge());
            }
            case 1 -> {
                feed(tellings(true));
                same("fight(" + p + ")", x.fight(p), y.fight(p));
            }
            case 2 -> likelyTellings(below(2) == 0, p);
            case 3 -> {
                feed(peopleRow(false));
                int t = about(y.told(3) + 1);
                same("reply(" + t + ")", x.reply(t), y.reply(t));
            }
            case 4 -> {
                feed(peopleRow(true));
                int d = below(3) == 0 ? about(401) : about(20);
                same("ring(" + d + ")", x.ring(d), y.ring(d));
            }
            default -> same("bestRing(" + p + ")", x.bestRing(p), y.bestRing(p));
        }
        same("count(1)", x.count(1), y.count(1));
        int n = about(y.told(2));
        for (int what = -1; what < 3; what++) {
            same("judged(" + n + ", " + what + ")", x.judged(n, what), y.judged(n, what));
            same("believe(" + what + ")", x.believe(what), y.believe(what));
        }
    }

    private void onePiece() {
        int n = about(y.told(2));
        int p = about(y.told(0));
        int q = about(y.told(0));
        int t = about(y.told(3) + 1);
        int hour = about(96);
        int what = about(2);
        String four = n + ", " + p + ", " + q + ", " + t;
        same("soon(" + four + ")", x.soon(n, p, q, t), y.soon(n, p, q, t));
        same("bars(" + four + ")", x.bars(n, p, q, t), y.bars(n, p, q, t));
        same("surest(" + four + ", " + hour + ", " + what + ")",
                x.surest(n, p, q, t, hour, what), y.surest(n, p, q, t, hour, what));
        int u = about(11);
        int z = below(3) == 0 ? about(y.told(3) + 1) : t < 0 || t > 64 ? t : t + about(y.told(3) - t + 1);
        String five = n + ", " + p + ", " + t + ", " + u + ", " + z;
        same("where(" + five + ", " + q + ")", x.where(n, p, t, u, z, q), y.where(n, p, t, u, z, q));
        same("ask(" + five + ")", x.ask(n, p, t, u, z), y.ask(n, p, t, u, z));
    }

    private void allPieces() {
        int what = about(2);
        same("all(" + what + ")", x.all(what), y.all(what));
        int set = about(1 << Math.max(0, y.told(2)));
        int p = about(y.told(0));
        same("together(" + set + ", " + p + ")", x.together(set, p), y.together(set, p));
    }

    private void runs() {
        int p = about(y.told(0));
        int n = about(y.told(2));
        switch (below(8)) {
            case 0 -> {
                int seed = below(3) == 0 ? chance.nextInt() : below(1000);
                same("begin(" + seed + ")", x.begin(seed), y.begin(seed));
            }
            case 1, 2 -> {
                int k = about(6);
                int to = about(y.told(0));
                same("rule(" + p + ", " + k + ", " + to + ")", x.rule(p, k, to), y.rule(p, k, to));
            }
            case 3 -> {
                int slot = about(3);
                same("keep(" + slot + ")", x.keep(slot), y.keep(slot));
            }
            case 4 -> {
                int slot = about(3);
                same("take(" + slot + ")", x.take(slot), y.take(slot));
            }
            default -> {
                int t = below(4) == 0 ? about(65) : about(9);
                same("go(" + t + ")", x.go(t), y.go(t));
            }
        }
        for (int what = -1; what < 4; what++) {
            same("now(" + n + ", " + what + ")", x.now(n, what), y.now(n, what));
            same("head(" + p + ", " + what + ")", x.head(p, what), y.head(p, what));
        }
    }
}
