import java.util.Random;

/**
 * Runs of 512 calls, the same ones each time, on lines of all shapes: each call's answer is compared with
 * the model's, and all that can be asked is compared now and then. No call may throw, whatever it is given.
 */
public final class ModelTest {
    private static final int RUNS = 1000;
    private static final int[] ODD = {Integer.MIN_VALUE, -1, 0, 1, 12, 16, 1000, Integer.MAX_VALUE};

    private final Checks c;
    private final Random r;
    private final MillLine x = new MillLine();
    private final Model y = new Model();
    private final boolean isTight;
    private static int rings;
    private static int stops;
    private static int standing;
    private static int longest;

    private ModelTest(Checks c, int seed) {
        this.c = c;
        this.r = new Random(seed);
        this.isTight = seed % 2 == 0;
    }

    public static void main(String[] args) {
        Checks c = new Checks();
        for (int seed = 0; seed < RUNS; seed++) {
            new ModelTest(c, seed).run();
        }
        c.due("most lines stood", standing > RUNS / 2, true);
        c.due("runs had rings", rings > 50, true);
        c.due("runs had long rings", longest > 3, true);
        c.due("runs were stopped by faults", stops > 50, true);
        c.end();
    }

    private void run() {
        lay();
        for (int i = 0; i < 350; i++) {
            step();
            if (i % 25 == 0) {
                compareAll();
            }
        }
        compareAll();
        standing += y.count(2);
    }

    private int pick(int least, int most) {
        return r.nextInt(60) == 0 ? ODD[r.nextInt(ODD.length)] : least + r.nextInt(most - least + 1);
    }

    private int bins;
    private int stages;

    /** BINS first, then STAGES whose INS are mostly BINS of their own and whose OUTS are any. */
    private void lay() {
        bins = isTight ? 4 + r.nextInt(6) : 6 + r.nextInt(11);
        stages = 1 + r.nextInt(Math.min(12, bins));
        for (int b = 0; b < bins; b++) {
            int room = isTight ? 1 + r.nextInt(2) : pick(1, 20);
            c.due("bin", x.bin(b, room), y.bin(b, room));
        }
        int nextIn = 0;
        for (int s = 0; s < stages; s++) {
            int kind = r.nextInt(bins - nextIn < stages - s + 2 ? 4 : 6);
            kind = isTight && kind == 5 ? 2 : kind;
            int a = aOf(kind);
            int beats = pick(1, r.nextInt(4) == 0 ? 20 : 3);
            c.due("stage", x.stage(s, kind, a, beats), y.stage(s, kind, a, beats));
            for (int i = 0; i < (kind == 4 ? 2 : 1); i++) {
                int b = r.nextInt(150) == 0 ? r.nextInt(16) : nextIn++;
                c.due("from", x.from(s, b), y.from(s, b));
            }
            layOuts(s, kind);
        }
        c.due("stands", x.stands(), y.stands());
    }

    private int aOf(int kind) {
        return switch (kind) {
            case 0 -> pick(0, 900);
            case 1 -> pick(1, 500);
            case 3 -> pick(0, 9);
            case 5 -> pick(1, r.nextBoolean() ? 50000 : 50);
            default -> pick(-5, 5);
        };
    }

    private void layOuts(int s, int kind) {
        int outs = new int[] {1, 1, 2, 2, 1, 0}[kind];
        int[] shares = {0, 0, 0};
        if (kind == 2) {
            shares[0] = r.nextInt(5) == 0 ? 1 + r.nextInt(5) : 1 + r.nextInt(990);
            shares[1] = 1000 - shares[0];
            if (r.nextBoolean()) {
                outs = 3;
                shares[1] = 1 + r.nextInt(shares[1] - 1);
                shares[2] = 1000 - shares[0] - shares[1];
            }
        }
        for (int i = 0; i < outs; i++) {
            int b = r.nextInt(150) == 0 ? r.nextInt(17) : r.nextInt(isTight ? Math.min(bins, stages) : bins);
            int share = r.nextInt(200) == 0 ? pick(0, 1000) : shares[i];
            c.due("to", x.to(s, b, share), y.to(s, b, share));
        }
    }

    private void step() {
        int s = pick(0, stages - 1);
        int b = pick(0, bins - 1);
        switch (r.nextInt(20)) {
            case 0 -> planSome(s);
            case 1 -> {
                int sort = pick(0, 2);
                int way = pick(0, 2);
                int mending = pick(1, 30);
                c.due("rule", x.rule(s, sort, way, mending), y.rule(s, sort, way, mending));
            }
            case 2 -> {
                int what = r.nextInt(4) == 0 ? pick(-1, 3) : 1;
                c.due("command", x.command(what), y.command(what));
            }
            case 3 -> {
                int i = pick(-1, 3);
                if (r.nextInt(6) == 0) {
                    c.due("divert", x.divert(s, i, b), y.divert(s, i, b));
                }
            }
            case 4, 5, 6, 7, 8 -> {
                int n = pick(1, r.nextInt(20) == 0 ? 200 : 4);
                boolean wasStopped = y.state(0, 0) == 4;
                c.due("beat", x.beat(n), y.beat(n));
                stops += !wasStopped && y.state(0, 0) == 4 ? 1 : 0;
            }
            case 9 -> tellMore(s, b);
            default -> feed(b);
        }
        c.due("quiet", x.quiet(), y.quiet());
        compareRing();
    }

    private void planSome(int s) {
        int n = Math.max(0, y.state(s, 2)) + pick(0, 3);
        int sort = pick(0, 2);
        c.due("plan", x.plan(s, n, sort), y.plan(s, n, sort));
    }

    private void tellMore(int s, int b) {
        int kind = pick(0, 5);
        int a = aOf(kind);
        int share = pick(1, 999);
        c.due("bin", x.bin(b, 3), y.bin(b, 3));
        c.due("stage", x.stage(s, kind, a, 2), y.stage(s, kind, a, 2));
        c.due("from", x.from(s, b), y.from(s, b));
        c.due("to", x.to(s, b, share), y.to(s, b, share));
        c.due("stands", x.stands(), y.stands());
    }

    private void feed(int b) {
        int grams = pick(1, r.nextBoolean() ? 100000 : 20);
        int grade = pick(0, 9);
        int damp = pick(0, 999);
        int origin = pick(0, 3);
        c.due("feed", x.feed(b, grams, grade, damp, origin), y.feed(b, grams, grade, damp, origin));
    }

    private void compareRing() {
        int first = y.ring(0);
        c.due("ring", x.ring(0), first);
        if (first < 0) {
            return;
        }
        rings++;
        for (int i = -1; i <= 12; i++) {
            c.due("ring", x.ring(i), y.ring(i));
            longest = Math.max(longest, y.ring(i) >= 0 ? i + 1 : 0);
        }
    }

    private void compareAll() {
        for (int what = -1; what <= 10; what++) {
            for (int i = -1; i <= 16; i++) {
                c.due("state " + what, x.state(i, what), y.state(i, what));
                c.due("level " + what, x.level(i, what), y.level(i, what));
            }
            c.due("total " + what, x.total(what), y.total(what));
            c.due("count " + what, x.count(what), y.count(what));
            c.due("sacks", x.sacks(what), y.sacks(what));
            for (int i = -1; i <= y.count(4); i++) {
                c.due("aside", x.aside(i, what), y.aside(i, what));
            }
        }
        for (int b = -1; b <= 16; b++) {
            for (int i = -1; i <= 22; i++) {
                for (int what = -1; what <= 4; what++) {
                    c.due("in", x.in(b, i, what), y.in(b, i, what));
                }
            }
        }
        compareParts();
        for (int odd : ODD) {
            c.due("odd", x.state(odd, odd) + x.in(odd, odd, odd) + x.part(odd, odd) + x.aside(odd, odd),
                y.state(odd, odd) + y.in(odd, odd, odd) + y.part(odd, odd) + y.aside(odd, odd));
        }
        c.due("no gram is lost", x.total(0) + x.total(1),
            x.total(2) + x.total(3) + x.total(4) + x.total(5) + x.total(6));
    }

    private void compareParts() {
        for (int lot = -1; lot <= y.count(1); lot++) {
            long sum = 0;
            for (int origin = -1; origin <= 4; origin++) {
                c.due("part", x.part(lot, origin), y.part(lot, origin));
                sum += Math.max(0, x.part(lot, origin));
            }
            c.due("a million", sum, lot >= 0 && lot < y.count(1) ? 1000000 : 0);
        }
    }
}
