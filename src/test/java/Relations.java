import java.util.Random;

/**
 * Promises held against one another: what the document says of two of them must fit together, whoever
 * reads it. So a sentence that OneHead and the Model misread alike can still be found.
 */
public final class Relations extends Checks {
    private static final int VILLAGES = 3000;
    private static final int SURELY = 10;

    private final Random chance;
    private final int people;
    private final int meetings;
    private final int news;
    private final String text;
    private final int times;
    private final int[] hours;
    private final int[] firsts;
    private final int[] others;
    private final int[] tenths;
    private OneHead x;

    private Relations(int seed, boolean sure, boolean mortal) {
        chance = new Random(seed);
        people = 2 + below(6);
        meetings = 1 + below(16);
        StringBuilder s = new StringBuilder();
        int[] room = new int[people];
        for (int p = 0; p < people; p++) {
            room[p] = 1 + below(3);
            s.append("person ").append(name(p)).append(' ').append(room[p]);
            s.append(mortal ? " dies " + below(300) : "").append(';');
        }
        for (int m = 0; m < meetings; m++) {
            int a = below(people);
            int b = unlike(a);
            s.append("meet ").append(name(a)).append(' ').append(name(b)).append(' ').append(below(24));
            s.append(sure ? "" : " chance " + (1 + below(SURELY))).append(';');
        }
        int wanted = 1 + below(4);
        int told = 0;
        for (int n = 0; n < wanted; n++) {
            int a = below(people);
            if (room[a] > 0) {
                room[a]--;
                s.append("news ").append(name(a)).append(' ').append(name(unlike(a))).append(' ')
                        .append(below(96)).append(' ').append(below(100)).append(';');
                if (below(3) == 0) {
                    s.append("bar ").append(name(unlike(a))).append(' ').append(told).append(';');
                }
                told++;
            }
        }
        news = told;
        text = s.toString();
        about = "village " + seed + ", \"" + text + "\"";
        // An object is good for 512 calls, so the times are read once, from one of their own.
        OneHead read = of(text);
        times = read.told(3);
        hours = new int[times];
        firsts = new int[times];
        others = new int[times];
        tenths = new int[times];
        for (int t = 0; t < times; t++) {
            int m = read.time(t, 1);
            hours[t] = read.time(t, 0);
            firsts[t] = read.meeting(m, 0);
            others[t] = read.meeting(m, 1);
            tenths[t] = read.meeting(m, 3);
        }
        x = of(text);
    }

    public static void main(String[] args) {
        turnsAtOneTime();
        for (int seed = 0; seed < VILLAGES && wrong == 0; seed++) {
            Relations surely = new Relations(seed, true, false);
            surely.rightRowsAndAll();
            surely.soonAndSurest();
            surely.soonAndBars();
            surely.soonAndTogether();
            surely.nearArrivesSoon();
            surely.whereByTheRun();
            Relations byChance = new Relations(seed, false, true);
            byChance.runIsRight();
            byChance.surestGrows();
            byChance.whereAndAsk();
            byChance.runInParts();
            byChance.bestRingIsBest();
            byChance.fightAndJudge();
            byChance.replyBySoon();
        }
        finish();
    }

    /** JUDGED says that the two may take turns at one time, so ALL must not be less than what that brings. */
    private static void turnsAtOneTime() {
        about = "turns at one time";
        String pair = "person a 2;person b 2;meet a b 1;";
        dueReached(pair + "news a b 9 1;news a b 9 2;news b a 9 4;", "0 0;0 2;0 1;");
        String more = "person a 2;person b 3;meet a b 1;";
        dueReached(more + "news a b 9 1;news a b 9 2;news b a 9 4;news b a 9 8;", "0 0;0 2;0 1;0 3;");
    }

    /** A right row by which all come in time: ALL is all there is. */
    private static void dueReached(String village, String row) {
        OneHead x = of(village);
        int news = x.told(2);
        due("judge() of \"" + row + "\"", judge(x, row), news);
        int worth = 0;
        for (int n = 0; n < news; n++) {
            due("judged(" + n + ", 1)", x.judged(n, 1), 1);
            worth += x.told(60 + n);
        }
        due("all(0)", x.all(0), worth);
    }

    private int below(int n) {
        return chance.nextInt(n);
    }

    private static String name(int p) {
        return String.valueOf((char) ('a' + p));
    }

    private int unlike(int p) {
        return (p + 1 + below(people - 1)) % people;
    }

    private void dueSo(String what, boolean so) {
        due(what, so ? 1 : 0, 1);
    }

    /** A right row of tellings by chance: a piece and a time at which who has it meets somebody. */
    private String row(int most) {
        StringBuilder row = new StringBuilder();
        int done = 0;
        int time = 0;
        for (int i = 0; i < most; i++) {
            time = Math.min(times - 1, time + below(3) * below(2));
            String longer = row + (time + " " + below(news) + ";");
            if (judge(x, longer) == done + 1) {
                row = new StringBuilder(longer);
                done++;
            }
        }
        return row.toString();
    }

    /** No right row of tellings by sure meetings brings more than ALL, nor pieces together ahead of TOGETHER. */
    private void rightRowsAndAll() {
        String row = row(25);
        int done = judge(x, row);
        int last = done == 0 ? -1 : Integer.parseInt(row.substring(row.lastIndexOf(';', row.length() - 2) + 1).split(" ")[0]);
        int worth = 0;
        int[] sets = new int[people];
        for (int n = 0; n < news; n++) {
            worth += x.judged(n, 1) * x.told(60 + n);
            sets[x.judged(n, 0)] |= 1 << n;
        }
        dueSo("the row \"" + row + "\" brings no more than all(0)", worth <= x.all(0));
        dueSo("all(0) is no more than all(1)", x.all(0) <= x.all(1));
        for (int p = 0; p < people; p++) {
            if (sets[p] != 0) {
                int came = x.together(sets[p], p);
                dueSo("together(" + sets[p] + ", " + p + ") by \"" + row + "\"", came == STATE || came >= 0 && came <= last);
            }
        }
    }

    /** Where all meet surely, SUREST is all or nothing, as SOON is by that hour or not. */
    private void soonAndSurest() {
        x = of(text);
        for (int i = 0; i < 20; i++) {
            int n = below(news);
            int from = below(people);
            int to = unlike(from);
            int time = below(times + 1);
            int hour = below(96);
            int came = x.soon(n, from, to, time);
            boolean byThen = came >= 0 && hours[came] <= hour;
            due("surest by soon", x.surest(n, from, to, time, hour, 0), byThen ? 1000000 : 0);
            due("its figures", x.surest(n, from, to, time, hour, 1), 0);
        }
    }

    /** A village with one bar more has no SOON just for those whom BARS tells. */
    private void soonAndBars() {
        for (int i = 0; i < 4; i++) {
            x = of(text);
            int n = below(news);
            int from = below(people);
            int to = unlike(from);
            int time = below(meetings + 1);
            int found = x.bars(n, from, to, time);
            boolean there = x.soon(n, from, to, time) != NONE;
            for (int p = 0; p < people; p++) {
                boolean free = p != from && p != to && p != x.told(30 + n) && (x.told(70 + n) >> p & 1) == 0;
                if (free) {
                    OneHead barred = of(text + "bar " + name(p) + " " + n + ";");
                    dueSo("bars(" + n + ", " + from + ", " + to + ", " + time + ") of " + p,
                            (found >> p & 1) == 1 == (there && barred.soon(n, from, to, time) == NONE));
                }
            }
        }
    }

    /** With one piece alone TOGETHER is SOON, ALL is APART. */
    private void soonAndTogether() {
        if (news != 1) {
            return;
        }
        x = of(text);
        int from = x.told(30);
        for (int p = 0; p < people; p++) {
            due("together(1, " + p + ")", x.together(1, p), x.soon(0, from, p, 0));
        }
        due("all(0)", x.all(0), x.all(1));
        int came = x.soon(0, from, x.told(40), 0);
        due("all(1)", x.all(1), came >= 0 && hours[came] <= x.told(50) ? x.told(60) : 0);
    }

    /** One piece alone, told by NEAR where all meet surely, comes as soon as it can; by BEST in time if it can. */
    private void nearArrivesSoon() {
        if (news != 1) {
            return;
        }
        x = of(text);
        int came = x.soon(0, x.told(30), x.told(40), 0);
        rules(2);
        x.begin(below(1000));
        x.go(times);
        due("now(0, 2) by NEAR", x.now(0, 2), came);
        rules(5);
        x.begin(below(1000));
        x.go(times);
        if (came >= 0 && hours[came] <= x.told(50)) {
            dueSo("now(0, 2) by BEST is in time", x.now(0, 2) >= 0 && hours[x.now(0, 2)] <= x.told(50));
        }
    }

    private void rules(int kind) {
        for (int p = 0; p < people; p++) {
            x.rule(p, kind, 0);
        }
    }

    /** Where all meet surely and tell always, one piece alone is where a run by ANY has it, till it has come. */
    private void whereByTheRun() {
        if (news != 1) {
            return;
        }
        x = of(text);
        int from = x.told(30);
        x.begin(below(1000));
        for (int t = 0; t < times && x.now(0, 2) == NONE; t++) {
            x.go(1);
            int with = x.now(0, 0);
            due("where ahead of " + (t + 1), x.where(0, from, 0, 10, t + 1, with), 1000000);
            due("ask ahead of " + (t + 1), x.ask(0, from, 0, 10, t + 1), with);
        }
    }

    /** What a run does is a right row of tellings, as long as nobody who has a piece dies. */
    private void runIsRight() {
        for (int p = 0; p < people; p++) {
            x.rule(p, below(6), below(people));
        }
        x.begin(below(100000));
        StringBuilder row = new StringBuilder();
        int[] with = places();
        boolean lost = false;
        for (int t = 0; t < times && !lost; t++) {
            x.go(1);
            int[] next = places();
            for (int teller : new int[] {firsts[t], others[t]}) {
                for (int n = 0; n < news; n++) {
                    lost |= next[n] == NONE;
                    if (with[n] == teller && next[n] == firsts[t] + others[t] - teller) {
                        row.append(t).append(' ').append(n).append(';');
                    }
                }
            }
            with = next;
        }
        if (!lost) {
            int often = 0;
            for (int n = 0; n < news; n++) {
                often += x.now(n, 1);
            }
            due("judge() of the run \"" + row + "\"", judge(x, row.toString()), often);
            for (int n = 0; n < news; n++) {
                due("judged(" + n + ", 0)", x.judged(n, 0), with[n]);
                boolean inTime = x.now(n, 2) != NONE && hours[x.now(n, 2)] <= x.told(50 + n);
                due("judged(" + n + ", 1)", x.judged(n, 1), inTime ? 1 : 0);
            }
        }
    }

    private int[] places() {
        int[] with = new int[news];
        for (int n = 0; n < news; n++) {
            with[n] = x.now(n, 0);
        }
        return with;
    }

    /** More hours and an earlier start never make it less sure, and no other way of telling is surer. */
    private void surestGrows() {
        x = of(text);
        for (int i = 0; i < 20; i++) {
            int n = below(news);
            int from = below(people);
            int to = unlike(from);
            int time = below(times);
            int hour = below(95);
            int sure = x.surest(n, from, to, time, hour, 0);
            dueSo("surest by an hour more", x.surest(n, from, to, time, hour + 1, 0) >= sure);
            dueSo("surest from a time later", x.surest(n, from, to, time + 1, hour, 0) <= sure);
            dueSo("surest is as sure as any way of telling", x.where(n, from, time, below(11), upTo(hour, time), to) <= sure);
            dueSo("figures", x.surest(n, from, to, time, hour, 1) <= Math.max(0, upTo(hour, time) - time));
        }
    }

    private int upTo(int hour, int least) {
        int t = least;
        while (t < times && hours[t] <= hour) {
            t++;
        }
        return t;
    }

    /** The chances of all are one together, but for what is cut off; nobody has more than whom ASK tells. */
    private void whereAndAsk() {
        x = of(text);
        for (int i = 0; i < 10; i++) {
            int n = below(news);
            int from = below(people);
            int t = below(times + 1);
            int z = t + below(times + 1 - t);
            int u = below(11);
            int most = x.where(n, from, t, u, z, x.ask(n, from, t, u, z));
            int sum = 0;
            for (int p = 0; p < people; p++) {
                int here = x.where(n, from, t, u, z, p);
                sum += here;
                dueSo("ask is no less than " + p, here <= most);
            }
            dueSo("the sum of where is " + sum, sum <= 1000000 && sum > 1000000 - people);
        }
    }

    /** A run in parts, kept and taken again, ends as one that goes on at once. */
    private void runInParts() {
        x = of(text);
        int seed = below(Integer.MAX_VALUE);
        int part = below(times + 1);
        x.begin(seed);
        due("go", x.go(times), times);
        String whole = runAsText();
        x.begin(seed);
        due("go", x.go(part), part);
        due("keep", x.keep(1), part);
        x.begin(below(1000));
        x.go(below(times + 1));
        due("take", x.take(1), part);
        due("go", x.go(times - part), times);
        dueSo("the run in parts ends as the whole one", runAsText().equals(whole));
    }

    private String runAsText() {
        StringBuilder s = new StringBuilder();
        for (int n = 0; n < news; n++) {
            s.append(x.now(n, 0)).append(' ').append(x.now(n, 1)).append(' ').append(x.now(n, 2)).append(',');
        }
        for (int p = 0; p < people; p++) {
            s.append(x.head(p, 0)).append(' ').append(x.head(p, 1)).append(',');
        }
        return s.toString();
    }

    /** No ring of as many people keeps a thing more surely, as many days as they are. */
    private void bestRingIsBest() {
        x = of(text);
        int n = 1 + below(people);
        int best = x.bestRing(n);
        due("people in the best ring", Integer.bitCount(best), n);
        int most = ring(x, rowOf(best), n);
        for (int set = 1; set < 1 << people; set += 1 + below(8)) {
            if (Integer.bitCount(set) == n) {
                dueSo("ring \"" + rowOf(set) + "\" is no better", ring(x, rowOf(set), n) <= most);
            }
        }
    }

    private static String rowOf(int set) {
        StringBuilder row = new StringBuilder();
        for (int p = 0; p < 7; p++) {
            row.append((set >> p & 1) == 1 ? String.valueOf(p) : "");
        }
        return row.toString();
    }

    /** Two pieces of one who holds both, in a village with room for all and no bars, are told as in a fight. */
    private void fightAndJudge() {
        int from = below(people);
        StringBuilder roomy = new StringBuilder();
        for (String clause : text.split(";")) {
            if (clause.startsWith("person")) {
                roomy.append(clause, 0, 9).append("3;");
            } else if (clause.startsWith("meet")) {
                roomy.append(clause).append(';');
            }
        }
        String both = "news " + name(from) + " " + name(unlike(from)) + " 95 1;";
        x = of(roomy + both + both);
        for (int i = 0; i < 12; i++) {
            StringBuilder row = new StringBuilder();
            int time = 0;
            for (int j = below(8); j >= 0; j--) {
                time = Math.max(0, Math.min(time + below(4) - below(2) * below(2), 63));
                row.append(time).append(' ').append(below(15) == 0 ? 2 : below(2)).append(';');
            }
            int judged = judge(x, row.toString());
            due("fight(" + from + ") of \"" + row + "\"", fight(x, row.toString(), from), judged);
            if (judged >= 0) {
                due("both believed", x.believe(0) & x.believe(1), 0);
                dueSo("who has it believes one", ((x.believe(0) | x.believe(1)) >> x.judged(0, 0) & 1) == 1);
            }
        }
    }

    /** A reply over two is told when they next meet surely; over more, one behind the other. */
    private void replyBySoon() {
        x = of(text);
        int time = below(times + 1);
        StringBuilder row = new StringBuilder();
        int p = below(people);
        int came = time - 1;
        row.append(p);
        boolean never = false;
        for (int i = 1 + below(4); i > 0; i--) {
            int next = unlike(p);
            row.insert(0, next);
            came = nextSure(p, next, came + 1);
            never |= came == NONE;
            p = next;
        }
        due("reply(" + time + ") of \"" + row + "\"", reply(x, row.toString(), time), never ? NONE : came);
    }

    private int nextSure(int one, int another, int time) {
        for (int t = time; t < times; t++) {
            if (tenths[t] == SURELY && (firsts[t] == one && others[t] == another
                    || firsts[t] == another && others[t] == one)) {
                return t;
            }
        }
        return NONE;
    }
}
