/** Promises 20 and 21: QUIET and THE RING. */
public final class RingTest {
    public static void main(String[] args) {
        Checks c = new Checks();
        quiet(c);
        ringOfThree(c);
        fewest(c);
        leastOfLike(c);
        leastSecond(c);
        fullForIt(c);
        stopped(c);
        ringOfAll(c);
        c.end();
    }

    private static void quiet(Checks c) {
        MillLine x = Checks.bins(3, 1);
        Checks.add(x, 0, 4, 0, 1, Checks.row(0, 1), Checks.row(2));
        c.due("does not stand", x.quiet(), -1);
        x.stands();
        c.due("nothing there", x.quiet(), 1);
        x.feed(0, 1, 0, 0, 0);
        c.due("one IN lacks", x.quiet(), 1);
        x.feed(1, 1, 0, 0, 0);
        c.due("could take", x.quiet(), 0);
        x.beat(1);
        c.due("works", x.quiet(), 0);
        x.command(0);
        c.due("stopped", x.quiet(), 1);
        x.command(1);
        c.due("could take again", x.quiet(), 0);
    }

    /** STAGES in a round of BINS of one LOT; each BIN is fed again when its STAGE has taken. */
    private static void fill(MillLine x, int... ins) {
        for (int b : ins) {
            x.feed(b, 100, 0, 0, 0);
        }
        x.beat(1);
        for (int b : ins) {
            x.feed(b, 100, 0, 0, 0);
        }
        x.beat(1);
    }

    private static void dueRing(Checks c, String text, MillLine x, int... stages) {
        for (int i = 0; i < stages.length; i++) {
            c.due(text + " " + i, x.ring(i), stages[i]);
        }
        c.due(text + " end", x.ring(stages.length), -1);
        c.due(text + " -1", x.ring(-1), -1);
        c.due(text + " far", x.ring(Integer.MAX_VALUE), -1);
        c.due(text + " low", x.ring(Integer.MIN_VALUE), -1);
    }

    private static void ringOfThree(Checks c) {
        MillLine x = Checks.bins(4, 1);
        Checks.add(x, 2, 0, 0, 1, Checks.row(0), Checks.row(1));
        Checks.add(x, 9, 0, 0, 1, Checks.row(1), Checks.row(2));
        Checks.add(x, 5, 0, 0, 1, Checks.row(2), Checks.row(0));
        x.stands();
        dueRing(c, "none yet", x);
        fill(x, 0, 1, 2);
        dueRing(c, "three", x, 2, 9, 5);
        c.due("quiet", x.quiet(), 1);
        x.divert(9, 0, 3);
        dueRing(c, "broken", x);
        c.due("not quiet", x.quiet(), 0);
        x.divert(9, 0, 0);
        dueRing(c, "two of them", x, 2, 9);
        x.divert(2, 0, 0);
        dueRing(c, "one alone", x, 2);
    }

    private static void fewest(Checks c) {
        MillLine x = Checks.bins(5, 1);
        Checks.add(x, 0, 0, 0, 1, Checks.row(0), Checks.row(1));
        Checks.add(x, 1, 0, 0, 1, Checks.row(1), Checks.row(2));
        Checks.add(x, 2, 0, 0, 1, Checks.row(2), Checks.row(0));
        Checks.add(x, 6, 0, 0, 1, Checks.row(3), Checks.row(4));
        Checks.add(x, 8, 0, 0, 1, Checks.row(4), Checks.row(3));
        x.stands();
        fill(x, 0, 1, 2, 3, 4);
        dueRing(c, "the fewest", x, 6, 8);
    }

    private static void leastOfLike(Checks c) {
        MillLine x = Checks.bins(4, 1);
        Checks.add(x, 1, 0, 0, 1, Checks.row(0), Checks.row(1));
        Checks.add(x, 7, 0, 0, 1, Checks.row(1), Checks.row(0));
        Checks.add(x, 2, 0, 0, 1, Checks.row(2), Checks.row(3));
        Checks.add(x, 3, 0, 0, 1, Checks.row(3), Checks.row(2));
        x.stands();
        fill(x, 0, 1, 2, 3);
        dueRing(c, "the lowest first", x, 1, 7);
    }

    /** From 0 by way of 2 or of 5 back to 0: as many STAGES, so the least second one. */
    private static void leastSecond(Checks c) {
        MillLine x = Checks.bins(4, 1);
        Checks.add(x, 0, 2, 0, 1, Checks.row(0), Checks.row(1, 2), 500, 500);
        Checks.add(x, 5, 0, 0, 1, Checks.row(1), Checks.row(0));
        Checks.add(x, 2, 0, 0, 1, Checks.row(2), Checks.row(0));
        x.stands();
        fill(x, 0, 1, 2);
        dueRing(c, "the least second", x, 0, 2);
        x.divert(2, 0, 3);
        dueRing(c, "the other", x, 0, 5);
    }

    /** One place is free, but two parts want it: the BIN is full for that ROLL. */
    private static void fullForIt(Checks c) {
        MillLine x = Checks.bins(2, 3);
        Checks.add(x, 0, 2, 0, 1, Checks.row(0), Checks.row(0, 0), 500, 500);
        x.stands();
        x.feed(0, 100, 0, 0, 0);
        x.beat(1);
        x.feed(0, 100, 0, 0, 0);
        x.feed(0, 100, 0, 0, 0);
        x.beat(1);
        c.due("pushed back", x.state(0, 0), 2);
        c.due("one place is free", x.level(0, 0), 2);
        dueRing(c, "full for it", x, 0);
        MillLine y = Checks.bins(2, 1);
        Checks.add(y, 0, 2, 0, 1, Checks.row(0), Checks.row(1, 0), 999, 1);
        y.stands();
        y.feed(1, 1, 0, 0, 0);
        y.feed(0, 100, 0, 0, 0);
        y.beat(1);
        y.feed(0, 100, 0, 0, 0);
        y.beat(1);
        c.due("pushed back by another BIN", y.state(0, 0), 2);
        dueRing(c, "a part of 0 GRAMS wants nothing", y);
    }

    private static void stopped(Checks c) {
        MillLine x = Checks.bins(2, 1);
        Checks.add(x, 0, 0, 0, 1, Checks.row(0), Checks.row(1));
        Checks.add(x, 1, 0, 0, 1, Checks.row(1), Checks.row(0));
        x.stands();
        fill(x, 0, 1);
        dueRing(c, "a ring", x, 0, 1);
        x.command(0);
        dueRing(c, "STOPPED STAGES are not pushed back", x);
        x.command(1);
        dueRing(c, "again", x, 0, 1);
    }

    private static void ringOfAll(Checks c) {
        MillLine x = Checks.bins(12, 1);
        int[] due = new int[12];
        int[] ins = new int[12];
        for (int i = 0; i < 12; i++) {
            due[i] = i * 5 % 12;
            ins[i] = i;
            Checks.add(x, due[i], 0, 0, 1, Checks.row(i), Checks.row((i + 1) % 12));
        }
        x.stands();
        fill(x, ins);
        dueRing(c, "all twelve", x, due);
    }
}
