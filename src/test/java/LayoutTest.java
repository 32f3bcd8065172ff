/** Promises 1 to 6: what a new object has, BINS, STAGES, INS, OUTS, and whether THE LINE STANDS. */
public final class LayoutTest {
    private static final int LOW = Integer.MIN_VALUE;
    private static final int HIGH = Integer.MAX_VALUE;

    public static void main(String[] args) {
        Checks c = new Checks();
        newObject(c);
        bins(c);
        stages(c);
        ins(c);
        outs(c);
        lacks(c);
        ownIns(c);
        afterStanding(c);
        c.end();
    }

    private static void newObject(Checks c) {
        MillLine x = new MillLine();
        for (int what = 0; what <= 6; what++) {
            c.due("new count " + what, x.count(what), 0);
            c.due("new total " + what, x.total(what), 0);
        }
        for (int b = -1; b <= 16; b++) {
            c.due("new level " + b, x.level(b, 0), -1);
            c.due("new state " + b, x.state(b, 0), -1);
            c.due("new in " + b, x.in(b, 0, 0), -1);
        }
        c.due("new stands", x.stands(), -1);
        c.due("new feed", x.feed(0, 1, 0, 0, 0), -1);
        c.due("new plan", x.plan(0, 1, 0), false);
        c.due("new rule", x.rule(0, 0, 0, 1), false);
        c.due("new beat", x.beat(1), -1);
        c.due("new command", x.command(1), false);
        c.due("new divert", x.divert(0, 0, 0), false);
        c.due("new quiet", x.quiet(), -1);
        c.due("new ring", x.ring(0), -1);
        c.due("new aside", x.aside(0, 0), -1);
        c.due("new part", x.part(0, 0), -1);
        c.due("new sacks", x.sacks(0), 0);
        c.due("new from", x.from(0, 0), -1);
        c.due("new to", x.to(0, 0, 0), -1);
    }

    private static void bins(Checks c) {
        MillLine x = new MillLine();
        int[] none = {-1, 16, LOW, HIGH};
        for (int b : none) {
            c.due("bin " + b, x.bin(b, 1), false);
        }
        int[] noRoom = {0, -1, 21, LOW, HIGH};
        for (int room : noRoom) {
            c.due("bin room " + room, x.bin(0, room), false);
        }
        c.due("refused bins are none", x.level(0, 2), -1);
        c.due("bin least", x.bin(0, 1), true);
        c.due("bin most", x.bin(15, 20), true);
        c.due("bin told", x.bin(0, 2), false);
        c.due("room least", x.level(0, 2), 1);
        c.due("room most", x.level(15, 2), 20);
        c.due("bins only: stands", x.stands(), -1);
    }

    private static void stages(Checks c) {
        int[][] edges = {{0, 0, 900}, {1, 1, 500}, {3, 0, 9}, {5, 1, 50000}};
        for (int[] e : edges) {
            MillLine x = new MillLine();
            c.due("a too low " + e[0], x.stage(0, e[0], e[1] - 1, 1), false);
            c.due("a too high " + e[0], x.stage(0, e[0], e[2] + 1, 1), false);
            c.due("a least " + e[0], x.stage(0, e[0], e[1], 1), true);
            c.due("a most " + e[0], x.stage(1, e[0], e[2], 1), true);
        }
        MillLine x = new MillLine();
        c.due("a of ROLL", x.stage(0, 2, LOW, 1), true);
        c.due("a of BLEND", x.stage(11, 4, HIGH, 20), true);
        int[] none = {-1, 12, LOW, HIGH};
        for (int s : none) {
            c.due("stage " + s, x.stage(s, 0, 0, 1), false);
        }
        int[] noKind = {-1, 6, LOW, HIGH};
        for (int kind : noKind) {
            c.due("kind " + kind, x.stage(1, kind, 1, 1), false);
        }
        int[] noBeats = {0, -1, 21, LOW, HIGH};
        for (int beats : noBeats) {
            c.due("beats " + beats, x.stage(1, 0, 1, beats), false);
        }
        c.due("stage told", x.stage(0, 0, 0, 1), false);
        c.due("STAGES told", x.count(5), 2);
        c.due("told stage waits", x.state(0, 0), 0);
        c.due("told stage has no OUT", x.state(0, 9), -1);
    }

    private static void ins(Checks c) {
        MillLine x = Checks.bins(2, 3);
        x.stage(0, 0, 0, 1);
        x.stage(1, 4, 0, 1);
        c.due("from no stage", x.from(2, 0), -1);
        c.due("from stage -1", x.from(-1, 0), -1);
        c.due("from no bin", x.from(0, 2), -1);
        c.due("from bin 16", x.from(0, 16), -1);
        c.due("from first", x.from(0, 0), 1);
        c.due("from one too many", x.from(0, 1), -1);
        c.due("blend first", x.from(1, 0), 1);
        c.due("blend second", x.from(1, 0), 2);
        c.due("blend third", x.from(1, 1), -1);
    }

    private static void outs(Checks c) {
        MillLine x = Checks.bins(3, 3);
        for (int kind = 0; kind < 6; kind++) {
            x.stage(kind, kind, 1, 1);
        }
        int[] most = {1, 1, 3, 2, 1, 0};
        for (int kind = 0; kind < 6; kind++) {
            c.due("to no bin", x.to(kind, 3, 1), -1);
            for (int i = 1; i <= most[kind]; i++) {
                c.due("to of kind " + kind, x.to(kind, 0, 300), i);
            }
            c.due("to one too many of kind " + kind, x.to(kind, 1, 300), -1);
        }
        c.due("to no stage", x.to(6, 0, 1), -1);
        c.due("first OUT", x.state(2, 9), 0);
        c.due("PACK has no first OUT", x.state(5, 9), -1);
        MillLine y = Checks.bins(1, 1);
        y.stage(0, 2, 0, 1);
        int[] noShare = {0, 1000, -1, LOW, HIGH};
        for (int share : noShare) {
            c.due("share " + share, y.to(0, 0, share), -1);
        }
        c.due("share least", y.to(0, 0, 1), 1);
        c.due("share most", y.to(0, 0, 999), 2);
    }

    private static void lacks(Checks c) {
        MillLine x = Checks.bins(6, 3);
        x.stage(3, 5, 1, 1);
        x.stage(7, 2, 0, 1);
        c.due("lack INS of 3", x.stands(), 301);
        x.from(3, 0);
        c.due("lack INS of 7", x.stands(), 701);
        x.from(7, 1);
        c.due("lack OUTS of 7", x.stands(), 702);
        x.to(7, 2, 400);
        c.due("one OUT is too few", x.stands(), 702);
        x.to(7, 3, 500);
        c.due("lack SHARES of 7", x.stands(), 703);
        c.due("does not stand", x.count(2), 0);
        x.to(7, 4, 100);
        c.due("stands", x.stands(), 0);
        c.due("count stands", x.count(2), 1);
        MillLine y = Checks.bins(4, 3);
        Checks.add(y, 0, 2, 0, 1, Checks.row(0), Checks.row(1, 2, 3), 400, 400, 300);
        c.due("SHARES too great", y.stands(), 3);
        MillLine z = Checks.bins(3, 3);
        Checks.add(z, 0, 2, 0, 1, Checks.row(0), Checks.row(1, 1), 1, 999);
        c.due("two SHARES, one BIN", z.stands(), 0);
        MillLine w = Checks.bins(3, 3);
        Checks.add(w, 0, 3, 1, 1, Checks.row(0), Checks.row(1));
        c.due("SIFT with one OUT", w.stands(), 2);
        MillLine v = Checks.bins(3, 3);
        Checks.add(v, 0, 4, 1, 1, Checks.row(0), Checks.row(1));
        c.due("BLEND with one IN", v.stands(), 1);
    }

    private static void ownIns(Checks c) {
        MillLine x = Checks.bins(4, 3);
        Checks.add(x, 0, 0, 0, 1, Checks.row(0), Checks.row(1));
        Checks.add(x, 4, 4, 0, 1, Checks.row(1, 0), Checks.row(2));
        x.stage(5, 5, 1, 1);
        c.due("an IN of a lower one", x.stands(), 404);
        MillLine y = Checks.bins(4, 3);
        Checks.add(y, 1, 4, 0, 1, Checks.row(3, 3), Checks.row(3));
        c.due("twice its own", y.stands(), 104);
        MillLine z = Checks.bins(4, 3);
        Checks.add(z, 1, 0, 0, 1, Checks.row(0), Checks.row(0));
        c.due("own IN as OUT", z.stands(), 0);
        MillLine w = Checks.bins(4, 3);
        Checks.add(w, 0, 2, 0, 1, Checks.row(0), Checks.row(1, 1), 1, 1);
        Checks.add(w, 1, 0, 0, 1, Checks.row(0), Checks.row(1));
        c.due("the lower STAGE first", w.stands(), 3);
    }

    private static void afterStanding(Checks c) {
        MillLine x = Checks.bins(2, 3);
        Checks.add(x, 0, 2, 0, 1, Checks.row(0), Checks.row(1, 1), 500, 500);
        c.due("stands", x.stands(), 0);
        c.due("stands again", x.stands(), -1);
        c.due("bin then", x.bin(2, 3), false);
        c.due("stage then", x.stage(1, 0, 0, 1), false);
        c.due("from then", x.from(0, 1), -1);
        c.due("to then", x.to(0, 1, 1), -1);
        c.due("STAGES told", x.count(5), 1);
    }
}
