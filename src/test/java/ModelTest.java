import java.util.Random;

/**
 * Runs of at most 512 calls, the same ones each time, on lines of all shapes: each call's answer is compared with
 * the model's, and so are questions of all kinds in between. No call may throw, whatever it is given.
 */
public final class ModelTest {
    private static final int RUNS = 20000;
    private static final int CALLS = 512;
    /** A step makes five calls at most, and the end of a run asks seven. */
    private static final int KEPT_FOR_THE_END = 12;
    private static final int[] ODD = {Integer.MIN_VALUE, -1, 0, 1, 12, 16, 1000, Integer.MAX_VALUE};
    private static int rings;
    private static int stops;
    private static int standing;
    private static int longest;
    private static int asides;
    private static int beyond;

    private final Checks c;
    private final Random r;
    private final MillLine x = new MillLine();
    private final Model y = new Model();
    private final boolean isTight;
    private int calls;
    private int bins;
    private int stages;

    private ModelTest(Checks c, int seed) {
        this.c = c;
        this.r = new Random(seed);
        this.isTight = seed % 2 == 0;
    }

    public static void main(String[] args) {
        Checks c = new Checks();
        for (int seed = 0; seed < RUNS; seed++) {
            new ModelTest(c, seed).run(seed);
        }
        c.due("most lines stood", standing > RUNS / 2, true);
        c.due("runs had rings", rings > 1000, true);
        c.due("runs had long rings", longest > 3, true);
        c.due("runs were stopped by faults", stops > 1000, true);
        c.due("runs had LOTS SET ASIDE", asides > 1000, true);
        c.due("runs had BINS beyond their ROOM", beyond > 100, true);
        c.end();
    }

    private void run(int seed) {
        lay();
        while (calls <= CALLS - KEPT_FOR_THE_END) {
            if (r.nextInt(5) < 2) {
                step();
            } else {
                question();
            }
        }
        long came = x.total(0) + x.total(1);
        due("no gram is lost", x.total(2) + x.total(3) + x.total(4) + x.total(5) + x.total(6), came);
        c.due("calls of run " + seed, calls + 6 <= CALLS, true);
        standing += y.count(2);
        asides += y.count(4) > 0 ? 1 : 0;
    }

    private void due(String call, long got, long want) {
        calls++;
        c.due(call, got, want);
    }

    private void due(String call, boolean got, boolean want) {
        due(call, got ? 1 : 0, want ? 1 : 0);
    }

    private int pick(int least, int most) {
        return r.nextInt(60) == 0 ? ODD[r.nextInt(ODD.length)] : least + r.nextInt(most - least + 1);
    }

    /** BINS first, then STAGES whose INS are mostly BINS of their own and whose OUTS are any. */
    private void lay() {
        bins = isTight ? 4 + r.nextInt(6) : 6 + r.nextInt(11);
        stages = 1 + r.nextInt(Math.min(12, bins));
        for (int b = 0; b < bins; b++) {
            int room = isTight ? 1 + r.nextInt(2) : pick(1, 20);
            due("bin", x.bin(b, room), y.bin(b, room));
        }
        int nextIn = 0;
        for (int s = 0; s < stages; s++) {
            int kind = r.nextInt(bins - nextIn < stages - s + 2 ? 4 : 6);
            kind = isTight && kind == 5 ? 2 : kind;
            int a = aOf(kind);
            int beats = pick(1, r.nextInt(4) == 0 ? 20 : 3);
            due("stage", x.stage(s, kind, a, beats), y.stage(s, kind, a, beats));
            for (int i = 0; i < (kind == 4 ? 2 : 1); i++) {
                int b = r.nextInt(150) == 0 ? r.nextInt(16) : nextIn++;
                due("from", x.from(s, b), y.from(s, b));
            }
            layOuts(s, kind);
        }
        due("stands", x.stands(), y.stands());
    }

    private int aOf(int kind) {
        return switch (kind) {
            case 0 -> pick(0, 900);
            case 1 -> pick(1, 500);
            case 3 -> pick(0, 9);
            case 5 -> pick(1, r.nextBoolean() ? 50000 : 50);
            default -> pick(-5, 5);
        };
    }

    private void layOuts(int s, int kind) {
        int outs = new int[] {1, 1, 2, 2, 1, 0}[kind];
        int[] shares = {0, 0, 0};
        if (kind == 2) {
            shares[0] = r.nextInt(5) == 0 ? 1 + r.nextInt(5) : 1 + r.nextInt(990);
            shares[1] = 1000 - shares[0];
            if (r.nextBoolean()) {
                outs = 3;
                shares[1] = 1 + r.nextInt(shares[1] - 1);
                shares[2] = 1000 - shares[0] - shares[1];
            }
        }
        for (int i = 0; i < outs; i++) {
            int b = r.nextInt(150) == 0 ? r.nextInt(17) : r.nextInt(isTight ? Math.min(bins, stages) : bins);
            int share = r.nextInt(200) == 0 ? pick(0, 1000) : shares[i];
            due("to", x.to(s, b, share), y.to(s, b, share));
        }
    }

    private void step() {
        int s = pick(0, stages - 1);
        int b = pick(0, bins - 1);
        switch (r.nextInt(20)) {
            case 0, 1 -> planSome(s);
            case 2 -> {
                int sort = pick(0, 2);
                int way = pick(0, 2);
                int mending = pick(1, 30);
                due("rule", x.rule(s, sort, way, mending), y.rule(s, sort, way, mending));
            }
            case 3 -> {
                int what = r.nextInt(4) == 0 ? pick(-1, 3) : 1;
                due("command", x.command(what), y.command(what));
            }
            case 4 -> {
                int i = pick(-1, 3);
                if (r.nextInt(4) == 0) {
                    due("divert", x.divert(s, i, b), y.divert(s, i, b));
                }
            }
            case 5, 6, 7, 8, 9 -> beat();
            case 10 -> tellMore(s, b);
            default -> feed(b);
        }
    }

    private void beat() {
        int n = pick(1, r.nextInt(20) == 0 ? 200 : 4);
        boolean wasStopped = y.state(0, 0) == 4;
        due("beat", x.beat(n), y.beat(n));
        stops += !wasStopped && y.state(0, 0) == 4 ? 1 : 0;
        for (int b = 0; b < bins; b++) {
            beyond += y.level(b, 0) > y.level(b, 2) ? 1 : 0;
        }
    }

    private void planSome(int s) {
        int n = Math.max(0, y.state(s, 2)) + pick(0, 3);
        int sort = pick(0, 2);
        due("plan", x.plan(s, n, sort), y.plan(s, n, sort));
    }

    private void tellMore(int s, int b) {
        int kind = pick(0, 5);
        int a = aOf(kind);
        int share = pick(1, 999);
        due("bin", x.bin(b, 3), y.bin(b, 3));
        due("stage", x.stage(s, kind, a, 2), y.stage(s, kind, a, 2));
        due("from", x.from(s, b), y.from(s, b));
        due("to", x.to(s, b, share), y.to(s, b, share));
        due("stands", x.stands(), y.stands());
    }

    private void feed(int b) {
        int grams = pick(1, r.nextBoolean() ? 100000 : 20);
        int grade = pick(0, 9);
        int damp = pick(0, 999);
        int origin = pick(0, 3);
        due("feed", x.feed(b, grams, grade, damp, origin), y.feed(b, grams, grade, damp, origin));
    }

    private void question() {
        int s = pick(0, stages - 1);
        int b = pick(0, bins - 1);
        switch (r.nextInt(10)) {
            case 0 -> due("quiet", x.quiet(), y.quiet());
            case 1 -> askRing();
            case 2 -> {
                int what = pick(-1, 7);
                due("count " + what, x.count(what), y.count(what));
            }
            case 3 -> {
                int what = pick(-1, 7);
                due("total " + what, x.total(what), y.total(what));
            }
            case 4 -> {
                int what = pick(-1, 4);
                due("level " + what, x.level(b, what), y.level(b, what));
            }
            case 5 -> {
                int i = pick(-1, Math.max(0, y.level(b, 0)));
                int what = pick(-1, 4);
                due("in " + what, x.in(b, i, what), y.in(b, i, what));
            }
            case 6 -> askOfLots();
            default -> {
                int what = pick(-1, 10);
                due("state " + what, x.state(s, what), y.state(s, what));
            }
        }
    }

    private void askRing() {
        int length = 0;
        while (y.ring(length) >= 0) {
            length++;
        }
        rings += length > 0 ? 1 : 0;
        longest = Math.max(longest, length);
        int i = pick(-1, length);
        due("ring " + i, x.ring(i), y.ring(i));
    }

    private void askOfLots() {
        int grade = pick(-1, 10);
        int i = pick(-1, y.count(4));
        int what = pick(-1, 5);
        int lot = pick(-1, y.count(1));
        int origin = pick(-1, 4);
        switch (r.nextInt(4)) {
            case 0 -> due("sacks", x.sacks(grade), y.sacks(grade));
            case 1 -> due("aside " + what, x.aside(i, what), y.aside(i, what));
            default -> due("part", x.part(lot, origin), y.part(lot, origin));
        }
    }
}
