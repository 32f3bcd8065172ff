/** Promises 7 and 14 to 19: feeding, what is in BINS, and what each KIND does with its LOTS. */
public final class GrainTest {
    public static void main(String[] args) {
        Checks c = new Checks();
        feeding(c);
        looking(c);
        clean(c);
        temper(c);
        roll(c);
        rollToNothing(c);
        sift(c);
        blend(c);
        blendParts(c);
        pack(c);
        c.end();
    }

    private static MillLine line(int kind, int a, int outs, int... shares) {
        MillLine x = Checks.bins(6, 20);
        int[] ins = kind == 4 ? Checks.row(0, 1) : Checks.row(0);
        int[] to = outs == 0 ? Checks.row() : outs == 1 ? Checks.row(3)
            : outs == 2 ? Checks.row(3, 4) : Checks.row(3, 4, 5);
        Checks.add(x, 0, kind, a, 1, ins, to, shares);
        x.stands();
        return x;
    }

    private static void feeding(Checks c) {
        MillLine x = Checks.bins(2, 2);
        Checks.add(x, 0, 0, 0, 1, Checks.row(0), Checks.row(1));
        c.due("feed before it stands", x.feed(0, 1, 0, 0, 0), -1);
        x.stands();
        int[][] wrong = {{-1, 1, 0, 0, 0}, {2, 1, 0, 0, 0}, {16, 1, 0, 0, 0}, {0, 0, 0, 0, 0},
            {0, 100001, 0, 0, 0}, {0, 1, -1, 0, 0}, {0, 1, 10, 0, 0}, {0, 1, 0, -1, 0}, {0, 1, 0, 1000, 0},
            {0, 1, 0, 0, -1}, {0, 1, 0, 0, 4}, {0, Integer.MIN_VALUE, 0, 0, 0}};
        for (int[] f : wrong) {
            c.due("feed " + java.util.Arrays.toString(f), x.feed(f[0], f[1], f[2], f[3], f[4]), -1);
        }
        c.due("no LOT yet", x.count(1), 0);
        c.due("feed least", x.feed(1, 1, 0, 0, 0), 0);
        c.due("feed most", x.feed(1, 100000, 9, 999, 3), 1);
        c.due("feed full", x.feed(1, 1, 0, 0, 0), -1);
        x.command(2);
        c.due("feed in DRAIN", x.feed(0, 1, 0, 0, 0), -1);
        c.due("DRAIN is on", x.count(3), 1);
        x.command(1);
        c.due("DRAIN is off", x.count(3), 0);
        c.due("feed after GO", x.feed(0, 1, 0, 0, 0), 2);
        c.due("fed", x.total(0), 100002);
        c.due("LOTS", x.count(1), 3);
    }

    private static void looking(Checks c) {
        MillLine x = line(5, 1, 0);
        x.feed(2, 70, 4, 55, 1);
        x.feed(2, 80, 5, 66, 2);
        int[][] due = {{0, 70, 4, 55}, {1, 80, 5, 66}};
        for (int i = 0; i < 2; i++) {
            for (int what = 0; what < 4; what++) {
                c.due("in " + i + " " + what, x.in(2, i, what), due[i][what]);
            }
        }
        int[][] none = {{2, 2, 0}, {2, -1, 0}, {2, 0, 4}, {2, 0, -1}, {6, 0, 0}, {-1, 0, 0}, {2, 20, 0}};
        for (int[] n : none) {
            c.due("in " + java.util.Arrays.toString(n), x.in(n[0], n[1], n[2]), -1);
        }
        c.due("level LOTS", x.level(2, 0), 2);
        c.due("no BEAT yet", x.level(2, 1), 0);
        c.due("level ROOM", x.level(2, 2), 20);
        c.due("level GRAMS", x.level(2, 3), 150);
        c.due("level 4", x.level(2, 4), -1);
        c.due("level -1", x.level(2, -1), -1);
        c.due("level of no BIN", x.level(6, 0), -1);
        x.beat(1);
        c.due("most at the end", x.level(2, 1), 2);
        c.due("part", x.part(1, 2), 1000000);
        c.due("part of another", x.part(1, 1), 0);
        int[][] noPart = {{2, 0}, {-1, 0}, {0, 4}, {0, -1}};
        for (int[] p : noPart) {
            c.due("part " + java.util.Arrays.toString(p), x.part(p[0], p[1]), -1);
        }
        c.due("total 7", x.total(7), -1);
        c.due("total -1", x.total(-1), -1);
        c.due("count 7", x.count(7), -1);
        c.due("count -1", x.count(-1), -1);
        c.due("sacks 10", x.sacks(10), -1);
        c.due("sacks -1", x.sacks(-1), -1);
        c.due("state 10", x.state(0, 10), -1);
        c.due("state -1", x.state(0, -1), -1);
        c.due("state of no STAGE", x.state(1, 0), -1);
    }

    private static void clean(Checks c) {
        MillLine x = line(0, 900, 1);
        x.feed(0, 1, 2, 3, 0);
        x.feed(0, 99999, 2, 3, 0);
        x.beat(3);
        c.due("CLEAN of 1 gram", x.in(3, 0, 1), 1);
        c.due("CLEAN is cut", x.in(3, 1, 1), 99999 - 89999);
        c.due("WASTE", x.total(3), 89999);
        c.due("in BINS", x.total(5), 10001);
        MillLine y = line(0, 0, 1);
        y.feed(0, 100000, 2, 3, 0);
        y.beat(2);
        c.due("CLEAN of nothing", y.total(3), 0);
    }

    private static void temper(Checks c) {
        MillLine x = line(1, 500, 1);
        x.feed(0, 100000, 0, 0, 0);
        x.feed(0, 10, 0, 999, 0);
        x.feed(0, 999, 0, 499, 0);
        x.beat(4);
        c.due("doubled", x.in(3, 0, 1), 200000);
        c.due("damp", x.in(3, 0, 3), 500);
        c.due("wetter stays", x.in(3, 1, 3), 999);
        c.due("wetter gets none", x.in(3, 1, 1), 10);
        c.due("WATER is cut", x.in(3, 2, 1), 1000);
        c.due("WATER", x.total(1), 100001);
        c.due("fed", x.total(0), 101009);
    }

    private static void roll(Checks c) {
        MillLine x = line(2, 0, 3, 1, 499, 500);
        x.feed(0, 1001, 7, 50, 3);
        x.beat(2);
        int[][] due = {{0, 2, 7, 50}, {1, 499, 8, 50}, {2, 500, 9, 50}};
        for (int out = 0; out < 3; out++) {
            for (int what = 0; what < 4; what++) {
                c.due("ROLL OUT " + out + " " + what, x.in(3 + out, 0, what), due[out][what]);
            }
            c.due("ROLL part", x.part(out, 3), 1000000);
        }
        x.feed(0, 1000, 9, 0, 0);
        x.beat(2);
        c.due("GRADE 9 at most", x.in(4, 1, 2), 9);
        c.due("GRADE 9 at most", x.in(5, 1, 2), 9);
    }

    private static void rollToNothing(Checks c) {
        MillLine x = line(2, 0, 3, 500, 1, 499);
        x.feed(0, 100, 0, 0, 0);
        x.beat(2);
        c.due("the first has what is left", x.in(3, 0, 1), 51);
        c.due("no LOT of 0 GRAMS", x.level(4, 0), 0);
        c.due("the third is 2 more", x.in(5, 0, 2), 2);
        c.due("the third has the next number", x.in(5, 0, 0), 1);
        c.due("LOTS", x.count(1), 2);
        x.feed(0, 1, 0, 0, 0);
        x.beat(2);
        c.due("one gram stays one LOT", x.count(1), 3);
        c.due("one gram goes to the first", x.in(3, 1, 1), 1);
    }

    private static void sift(Checks c) {
        MillLine x = line(3, 0, 2);
        x.feed(0, 5, 0, 0, 0);
        x.feed(0, 6, 1, 0, 0);
        x.beat(3);
        c.due("not above", x.in(3, 0, 0), 0);
        c.due("above", x.in(4, 0, 0), 1);
        MillLine y = line(3, 9, 2);
        y.feed(0, 5, 9, 0, 0);
        y.beat(2);
        c.due("none is above 9", y.in(3, 0, 0), 0);
    }

    private static void blend(Checks c) {
        MillLine x = line(4, 0, 1);
        int[][] pairs = {{1, 1, 0, 1, 2, 1}, {1, 2, 1, 1, 3, 2}, {3, 0, 0, 1, 9, 999}, {1, 9, 7, 3, 0, 0},
            {2, 4, 100, 2, 9, 103}};
        int[][] due = {{2, 2, 0}, {2, 2, 2}, {4, 2, 250}, {4, 2, 2}, {4, 6, 102}};
        for (int i = 0; i < pairs.length; i++) {
            int[] p = pairs[i];
            x.feed(1, p[3], p[4], p[5], 1);
            x.feed(0, p[0], p[1], p[2], 0);
            x.beat(2);
            c.due("BLEND number " + i, x.in(3, i, 0), 2 * i + 1);
            for (int what = 1; what < 4; what++) {
                c.due("BLEND " + i + " " + what, x.in(3, i, what), due[i][what - 1]);
            }
        }
        c.due("one of the two is gone", x.total(5), 16);
    }

    private static void blendParts(Checks c) {
        MillLine x = Checks.bins(7, 20);
        Checks.add(x, 2, 4, 0, 1, Checks.row(0, 1), Checks.row(2));
        Checks.add(x, 1, 4, 0, 1, Checks.row(3, 4), Checks.row(5));
        Checks.add(x, 0, 4, 0, 1, Checks.row(2, 5), Checks.row(6));
        x.stands();
        x.feed(0, 1, 0, 0, 3);
        x.feed(1, 2, 0, 0, 1);
        x.feed(3, 2, 0, 0, 2);
        x.feed(4, 2, 0, 0, 3);
        x.beat(2);
        c.due("a third", x.part(0, 3), 333333);
        c.due("what lacks comes to the greatest", x.part(0, 1), 666667);
        c.due("half", x.part(2, 2), 500000);
        x.beat(1);
        // 3 GRAMS of 0, 666667, 0, 333333 and 4 GRAMS of 0, 0, 500000, 500000.
        c.due("of 0", x.part(0, 0), 0);
        c.due("of 1", x.part(0, 1), 285714);
        c.due("of 2", x.part(0, 2), 285714);
        c.due("of 3", x.part(0, 3), 428572);
        c.due("as it was", x.part(2, 3), 500000);
        likeParts(c);
    }

    /** 1 of 3 with 2 of half and half: three like ones, and the lowest ORIGIN has what lacks. */
    private static void likeParts(Checks c) {
        MillLine x = Checks.bins(5, 20);
        Checks.add(x, 1, 4, 0, 1, Checks.row(0, 1), Checks.row(2));
        Checks.add(x, 0, 4, 0, 1, Checks.row(3, 2), Checks.row(4));
        x.stands();
        x.feed(0, 1, 0, 0, 1);
        x.feed(1, 1, 0, 0, 2);
        x.feed(3, 1, 0, 0, 3);
        x.beat(3);
        c.due("like ones: the lowest", x.part(2, 1), 333334);
        c.due("like ones: another", x.part(2, 2), 333333);
        c.due("like ones: the last", x.part(2, 3), 333333);
        c.due("GRAMS together", x.in(4, 0, 1), 3);
    }

    private static void pack(Checks c) {
        MillLine x = line(5, 100, 0);
        x.feed(0, 250, 3, 0, 0);
        x.feed(0, 60, 4, 0, 0);
        x.feed(0, 50, 3, 0, 0);
        x.beat(2);
        c.due("two SACKS", x.sacks(3), 2);
        c.due("the next LOT and what is left", x.state(0, 8), 110);
        x.beat(2);
        c.due("the rest fills one", x.sacks(3), 3);
        c.due("another GRADE apart", x.sacks(4), 0);
        c.due("left", x.state(0, 8), 60);
        c.due("PACKED", x.total(2), 300);
        c.due("in STAGES", x.total(6), 60);
        c.due("has no LOT", x.state(0, 6), -1);
        c.due("waits", x.state(0, 0), 0);
        c.due("quiet", x.quiet(), 1);
    }
}
