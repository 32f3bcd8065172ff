/** QUIET, rings of pushing back and what is counted: promises 20 to 22, sentence by sentence. */
public final class RingEdgesTest {
    public static void main(String[] args) {
        Checks c = new Checks();
        quietWhenItDoesNotStand(c);
        quietWorks(c);
        quietMended(c);
        quietWaits(c);
        quietPushedBack(c);
        quietForNumbers(c);
        quietStopped(c);
        ringNoSuch(c);
        ringOfOne(c);
        ringOfPushedBack(c);
        ringOfFullBins(c);
        ringOfWhatItWants(c);
        ringOfGoingOn(c);
        ringFullForIt(c);
        ringByASecondIn(c);
        ringOfTheFewest(c);
        ringLeastFirst(c);
        ringLeastLater(c);
        countNoSuch(c);
        countOfEach(c);
        c.end();
    }

    private static void quietWhenItDoesNotStand(Checks c) {
        c.by("P20 NONE: it does not stand");
        c.due("a new object", new MillLine().quiet(), -1);
        MillLine x = Checks.bins(2, 1);
        Checks.add(x, 0, 0, 0, 1, Checks.row(0), Checks.row(1));
        c.due("not said yet", x.quiet(), -1);
        x.stands();
        c.due("it stands, and is empty", x.quiet(), 1);
    }

    private static void quietWorks(Checks c) {
        c.by("QUIET: no STAGE WORKS");
        MillLine x = Checks.one(5, 1, 2, 1);
        Checks.fill(x, 0, 1);
        x.beat(1);
        c.due("two to go", x.quiet(), 0);
        x.beat(1);
        c.due("one to go", x.quiet(), 0);
        x.beat(1);
        c.due("ENDED", x.quiet(), 1);
    }

    private static void quietMended(Checks c) {
        c.by("QUIET: no STAGE is MENDED");
        MillLine x = Checks.one(5, 1, 1, 1);
        x.plan(0, 1, 0);
        Checks.fill(x, 0, 1);
        x.beat(2);
        c.due("five to go", x.quiet(), 0);
        x.beat(4);
        c.due("one to go", x.quiet(), 0);
        x.beat(1);
        c.due("WAITS", x.quiet(), 1);
    }

    private static void quietWaits(Checks c) {
        c.by("QUIET: none that WAITS has a LOT in each of its INS");
        MillLine x = Checks.one(0, 0, 1, 1);
        Checks.fill(x, 3, 1);
        c.due("a LOT in a BIN that is no IN", x.quiet(), 1);
        Checks.fill(x, 0, 1);
        c.due("a LOT in its IN", x.quiet(), 0);
        for (int b = 0; b < 2; b++) {
            MillLine y = Checks.one(4, 0, 1, 1);
            Checks.fill(y, b, 1);
            c.due("in one of two", y.quiet(), 1);
            y.beat(10);
            c.due("and so it stays", y.quiet(), 1);
            Checks.fill(y, 1 - b, 1);
            c.due("in both", y.quiet(), 0);
        }
    }

    private static void quietPushedBack(Checks c) {
        c.by("QUIET: none that is PUSHED BACK could put");
        MillLine x = Checks.one(2, 0, 1, 1, 500, 500);
        Checks.fill(x, 3, 1);
        Checks.fill(x, 4, 1);
        x.feed(0, 10, 0, 0, 0);
        x.beat(2);
        c.due("both are full", x.quiet(), 1);
        x.divert(0, 0, 5);
        c.due("one is full", x.quiet(), 1);
        x.divert(0, 1, 5);
        c.due("ROOM for one of two", x.quiet(), 1);
        x.divert(0, 1, 1);
        c.due("none is full", x.quiet(), 0);
        x.beat(1);
        c.due("it has put", x.quiet(), 1);
    }

    private static void quietForNumbers(Checks c) {
        c.by("QUIET: one that lacks numbers could not put");
        int[] lots = {1497, 1498};
        for (int n : lots) {
            MillLine x = Checks.withLots(n, y ->
                Checks.add(y, 0, 2, 0, 1, Checks.row(0), Checks.row(1, 2, 12), 500, 300, 200));
            Checks.fill(x, 12, 1);
            x.feed(0, 100, 0, 0, 0);
            x.beat(2);
            c.due("PUSHED BACK", x.state(0, 0), 2);
            c.due("one number or none", x.count(1), n + 2);
            c.due("quiet", x.quiet(), 1);
        }
    }

    private static void quietStopped(Checks c) {
        c.by("QUIET: the next BEAT would change nothing: all are STOPPED");
        MillLine x = Checks.one(0, 0, 1, 1);
        Checks.fill(x, 0, 1);
        x.command(0);
        c.due("with a LOT in its IN", x.quiet(), 1);
        x.command(1);
        c.due("after GO", x.quiet(), 0);
        Checks.fill(x, 3, 1);
        x.beat(2);
        x.command(0);
        x.divert(0, 0, 4);
        c.due("with ROOM for what it has", x.quiet(), 1);
        x.command(1);
        c.due("after GO again", x.quiet(), 0);
    }

    /** CLEANS of one BEAT, of which the i-th takes from BIN i and puts into BIN tos[i], of ROOM 1. */
    private static MillLine cleans(int[] stages, int... tos) {
        MillLine x = Checks.bins(16, 1);
        for (int i = 0; i < stages.length; i++) {
            Checks.add(x, stages[i], 0, 0, 1, Checks.row(i), Checks.row(tos[i]));
        }
        return x;
    }

    /** All BINS are fed, and again when the STAGES have taken: all of them are PUSHED BACK by what is full. */
    private static MillLine pushed(MillLine x, int bins) {
        x.stands();
        for (int time = 0; time < 2; time++) {
            for (int b = 0; b < bins; b++) {
                x.feed(b, 100, 0, 0, 0);
            }
            x.beat(1);
        }
        return x;
    }

    private static void dueRing(Checks c, String text, MillLine x, int... stages) {
        for (int i = 0; i < stages.length; i++) {
            c.due(text + " " + i, x.ring(i), stages[i]);
        }
        c.due(text + ", behind the last", x.ring(stages.length), -1);
    }

    private static void ringNoSuch(Checks c) {
        c.by("P21 NONE if there is none such");
        c.due("a new object", new MillLine().ring(0), -1);
        MillLine x = cleans(Checks.row(3), 1);
        c.due("it does not stand", x.ring(0), -1);
        x.stands();
        c.due("an empty line", x.ring(0), -1);
        MillLine two = pushed(cleans(Checks.row(3, 8), 1, 0), 2);
        c.numbers("of two", 0, 1, i -> two.ring(i));
        MillLine all = pushed(cleans(Checks.row(0, 1, 2, 3, 4, 5, 6, 7, 8, 9, 10, 11),
            1, 2, 3, 4, 5, 6, 7, 8, 9, 10, 11, 0), 12);
        c.numbers("of twelve", 0, 11, i -> all.ring(i));
        dueRing(c, "of twelve", all, 0, 1, 2, 3, 4, 5, 6, 7, 8, 9, 10, 11);
    }

    private static void ringOfOne(Checks c) {
        c.by("A RING: the last of the first, also of one STAGE");
        dueRing(c, "its own IN", pushed(cleans(Checks.row(11), 0), 1), 11);
        dueRing(c, "another BIN", pushed(cleans(Checks.row(11), 1), 2));
    }

    private static void ringOfPushedBack(Checks c) {
        c.by("A RING: STAGES that are PUSHED BACK");
        MillLine x = Checks.bins(2, 1);
        Checks.add(x, 0, 0, 0, 1, Checks.row(0), Checks.row(1));
        Checks.add(x, 1, 0, 0, 3, Checks.row(1), Checks.row(0));
        pushed(x, 2);
        c.due("1 WORKS yet", x.state(1, 0), 1);
        dueRing(c, "one that WORKS is in none", x);
        x.beat(2);
        dueRing(c, "both are PUSHED BACK", x, 0, 1);
        x.command(0);
        dueRing(c, "STOPPED", x);
        x.command(1);
        dueRing(c, "after GO", x, 0, 1);
    }

    private static void ringOfFullBins(Checks c) {
        c.by("A RING: an OUT which is full");
        MillLine x = pushed(cleans(Checks.row(0, 1), 1, 0), 2);
        dueRing(c, "both are full", x, 0, 1);
        x.divert(1, 0, 2);
        dueRing(c, "an empty OUT", x);
        x.divert(1, 0, 0);
        dueRing(c, "full again", x, 0, 1);
        x.divert(0, 0, 0);
        dueRing(c, "its own", x, 0);
        // STAGE 0 is PUSHED BACK by BIN 3 alone: BIN 1, by which it would come to STAGE 1, has ROOM.
        MillLine y = Checks.bins(4, 1);
        Checks.add(y, 0, 2, 0, 1, Checks.row(0), Checks.row(1, 3), 500, 500);
        Checks.add(y, 1, 0, 0, 1, Checks.row(1), Checks.row(0));
        y.stands();
        Checks.fill(y, 3, 1);
        Checks.fill(y, 1, 1);
        y.feed(0, 100, 0, 0, 0);
        y.beat(1);
        Checks.fill(y, 0, 1);
        y.beat(1);
        c.due("0 is PUSHED BACK", y.state(0, 0), 2);
        c.due("1 is PUSHED BACK", y.state(1, 0), 2);
        dueRing(c, "of two OUTS the one that is not full", y);
        Checks.fill(y, 1, 1);
        dueRing(c, "and when it is full", y, 0, 1);
    }

    private static void ringOfWhatItWants(Checks c) {
        c.by("A RING: an OUT into which it wants to put");
        for (int grade = 0; grade <= 1; grade++) {
            MillLine x = Checks.bins(2, 1);
            Checks.add(x, 0, 3, 0, 1, Checks.row(0), Checks.row(0, 1));
            x.stands();
            Checks.fill(x, 1, 1);
            x.feed(0, 1, grade, 0, 0);
            x.beat(1);
            x.feed(0, 1, grade, 0, 0);
            x.beat(1);
            c.due("PUSHED BACK", x.state(0, 0), 2);
            c.due("SIFT of GRADE " + grade, x.ring(0), grade == 0 ? 0 : -1);
        }
        int[] grams = {999, 1000};
        for (int g : grams) {
            MillLine x = Checks.bins(2, 1);
            Checks.add(x, 0, 2, 0, 1, Checks.row(0), Checks.row(1, 0), 999, 1);
            x.stands();
            Checks.fill(x, 1, 1);
            x.feed(0, g, 0, 0, 0);
            x.beat(1);
            x.feed(0, g, 0, 0, 0);
            x.beat(1);
            c.due("PUSHED BACK", x.state(0, 0), 2);
            c.due("ROLL of " + g + " GRAMS", x.ring(0), g == 1000 ? 0 : -1);
        }
    }

    private static void ringOfGoingOn(Checks c) {
        c.by("A RING: what GOES ON wants its first OUT alone");
        for (int first = 0; first <= 1; first++) {
            MillLine x = Checks.bins(2, 1);
            Checks.add(x, 0, 2, 0, 1, Checks.row(0), Checks.row(first, 1 - first), 500, 500);
            x.rule(0, 0, 1, 1);
            x.plan(0, 1, 0);
            pushed(x, 2);
            c.due("PUSHED BACK", x.state(0, 0), 2);
            c.due("its first OUT is BIN " + first, x.ring(0), first == 0 ? 0 : -1);
        }
    }

    private static void ringFullForIt(Checks c) {
        c.by("A RING: which is full (for it)");
        int[][] shares = {{500, 500}, {999, 1}};
        for (int[] share : shares) {
            MillLine x = Checks.bins(2, 2);
            Checks.add(x, 0, 2, 0, 1, Checks.row(0), Checks.row(0, 0), share);
            x.stands();
            x.feed(0, 100, 0, 0, 0);
            x.beat(1);
            Checks.fill(x, 0, 1);
            x.beat(1);
            boolean isFull = share[0] == 500;
            c.due("one place is free, two want it", x.state(0, 0), isFull ? 2 : 1);
            c.due("SHARE " + share[0], x.ring(0), isFull ? 0 : -1);
        }
    }

    private static void ringByASecondIn(Checks c) {
        c.by("A RING: that is an IN of the next, its second too");
        MillLine x = Checks.bins(3, 1);
        Checks.add(x, 4, 4, 0, 1, Checks.row(0, 1), Checks.row(2));
        Checks.add(x, 2, 0, 0, 1, Checks.row(2), Checks.row(1));
        dueRing(c, "by the second IN", pushed(x, 3), 2, 4);
    }

    private static void ringOfTheFewest(Checks c) {
        c.by("THE RING: of the fewest STAGES");
        MillLine x = pushed(cleans(Checks.row(0, 1, 2, 10, 11), 1, 2, 0, 4, 3), 5);
        dueRing(c, "two before three", x, 10, 11);
        MillLine y = pushed(cleans(Checks.row(0, 1, 11), 1, 0, 2), 3);
        dueRing(c, "one before two", y, 11);
        MillLine z = Checks.bins(4, 1);
        Checks.add(z, 0, 2, 0, 1, Checks.row(0), Checks.row(1, 3), 500, 500);
        Checks.add(z, 1, 0, 0, 1, Checks.row(1), Checks.row(2));
        Checks.add(z, 2, 0, 0, 1, Checks.row(2), Checks.row(0));
        Checks.add(z, 9, 0, 0, 1, Checks.row(3), Checks.row(0));
        dueRing(c, "of two from one STAGE the shorter", pushed(z, 4), 0, 9);
    }

    private static void ringLeastFirst(Checks c) {
        c.by("THE RING: then the least, from its lowest on");
        dueRing(c, "1 before 2", pushed(cleans(Checks.row(2, 3, 11, 1), 1, 0, 3, 2), 4), 1, 11);
        dueRing(c, "the lowest is told first", pushed(cleans(Checks.row(9, 5, 2), 1, 2, 0), 3), 2, 9, 5);
        dueRing(c, "the other way round", pushed(cleans(Checks.row(5, 9, 2), 1, 2, 0), 3), 2, 5, 9);
    }

    private static void ringLeastLater(Checks c) {
        c.by("THE RING: the least, number by number");
        int[][] ways = {{4, 3}, {3, 4}};
        for (int[] way : ways) {
            MillLine x = Checks.bins(4, 1);
            Checks.add(x, 0, 2, 0, 1, Checks.row(0), Checks.row(1, 2), 500, 500);
            Checks.add(x, way[0], 0, 0, 1, Checks.row(1), Checks.row(0));
            Checks.add(x, way[1], 0, 0, 1, Checks.row(2), Checks.row(0));
            dueRing(c, "the second", pushed(x, 3), 0, 3);
            MillLine y = Checks.bins(5, 1);
            Checks.add(y, 0, 0, 0, 1, Checks.row(0), Checks.row(1));
            Checks.add(y, 9, 2, 0, 1, Checks.row(1), Checks.row(2, 3), 500, 500);
            Checks.add(y, way[0], 0, 0, 1, Checks.row(2), Checks.row(0));
            Checks.add(y, way[1], 0, 0, 1, Checks.row(3), Checks.row(0));
            dueRing(c, "the third", pushed(y, 4), 0, 9, 3);
        }
        // From 1 by way of 3 and 8 or of 4 and 2: the second number decides before the third.
        MillLine z = Checks.bins(5, 1);
        Checks.add(z, 1, 2, 0, 1, Checks.row(0), Checks.row(1, 2), 500, 500);
        Checks.add(z, 3, 0, 0, 1, Checks.row(1), Checks.row(3));
        Checks.add(z, 4, 0, 0, 1, Checks.row(2), Checks.row(4));
        Checks.add(z, 8, 0, 0, 1, Checks.row(3), Checks.row(0));
        Checks.add(z, 2, 0, 0, 1, Checks.row(4), Checks.row(0));
        dueRing(c, "the second before the third", pushed(z, 5), 1, 3, 8);
    }

    private static void countNoSuch(Checks c) {
        c.by("P22 NONE for others");
        c.numbers("of a new object", 0, 6, what -> new MillLine().count(what));
        c.numbers("of a line that stands", 0, 6, what -> Checks.one(0, 0, 1, 1).count(what));
        for (int what = 0; what <= 6; what++) {
            c.due("of a new object " + what, new MillLine().count(what), 0);
        }
    }

    private static void countOfEach(Checks c) {
        c.by("P22 0 BEATS, 1 LOTS, 2 stands, 3 DRAIN, 4 SET ASIDE, 5 STAGES told, 6 FAULTS that have not come");
        MillLine x = Checks.bins(6, 20);
        for (int s = 0; s < 5; s++) {
            Checks.add(x, s, 0, 0, 1, Checks.row(s), Checks.row(5));
        }
        for (int n = 1; n <= 10; n++) {
            x.plan(0, n, 0);
        }
        x.rule(0, 0, 0, 1);
        x.stands();
        Checks.fill(x, 0, 3);
        x.command(2);
        x.beat(7);
        int[] due = {7, 3, 1, 1, 3, 5, 7};
        for (int what = 0; what <= 6; what++) {
            c.due("count " + what, x.count(what), due[what]);
        }
    }
}
