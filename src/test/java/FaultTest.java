/** Promises 8, 9, 11 and 18: FAULTS, their RULES, MENDING, LOTS SET ASIDE, STOP, GO and DRAIN. */
public final class FaultTest {
    public static void main(String[] args) {
        Checks c = new Checks();
        planning(c);
        ruling(c);
        setAside(c);
        setAsideBlend(c);
        goOn(c);
        goOnAsSetAside(c);
        stopLine(c);
        stopAmongOthers(c);
        stopAndGo(c);
        beyondRoom(c);
        mendingStopped(c);
        c.end();
    }

    private static MillLine clean(int beats) {
        MillLine x = Checks.bins(2, 5);
        Checks.add(x, 0, 0, 500, beats, Checks.row(0), Checks.row(1));
        return x;
    }

    private static void planning(Checks c) {
        MillLine x = clean(1);
        int[][] wrong = {{-1, 1, 0}, {1, 1, 0}, {12, 1, 0}, {0, 0, 0}, {0, 1001, 0}, {0, -1, 0}, {0, 1, -1}, {0, 1, 3}};
        for (int[] p : wrong) {
            c.due("plan " + java.util.Arrays.toString(p), x.plan(p[0], p[1], p[2]), false);
        }
        c.due("before it stands", x.plan(0, 1, 0), true);
        c.due("planned already", x.plan(0, 1, 1), false);
        c.due("the last that can be", x.plan(0, 1000, 2), true);
        x.stands();
        x.feed(0, 8, 0, 0, 0);
        x.feed(0, 8, 0, 0, 0);
        x.beat(1);
        c.due("not come yet", x.count(6), 2);
        c.due("no FAULT yet", x.state(0, 7), 0);
        x.beat(1);
        c.due("one has come", x.count(6), 1);
        c.due("FAULTS", x.state(0, 7), 1);
        c.due("so many have ENDED", x.plan(0, 1, 0), false);
        c.due("the next has not", x.plan(0, 2, 0), true);
        for (int n = 3; n <= 39; n++) {
            c.due("plan " + n, x.plan(0, n, n % 3), true);
        }
        c.due("40 were planned", x.plan(0, 41, 0), false);
        c.due("39 to come", x.count(6), 39);
        MillLine y = clean(1);
        y.stands();
        for (int i = 0; i < 3; i++) {
            y.feed(0, 8, 0, 0, 0);
        }
        y.beat(3);
        c.due("two have ENDED", y.state(0, 2), 2);
        c.due("plan the second then", y.plan(0, 2, 0), false);
        c.due("plan the one that WORKS", y.plan(0, 3, 0), true);
        y.beat(1);
        c.due("it fails", y.state(0, 0), 3);
    }

    private static void ruling(Checks c) {
        MillLine x = clean(1);
        int[][] wrong = {{-1, 0, 0, 1}, {1, 0, 0, 1}, {0, -1, 0, 1}, {0, 3, 0, 1}, {0, 0, -1, 1}, {0, 0, 3, 1},
            {0, 0, 0, 0}, {0, 0, 0, 31}, {0, 0, 1, 0}};
        for (int[] r : wrong) {
            c.due("rule " + java.util.Arrays.toString(r), x.rule(r[0], r[1], r[2], r[3]), false);
        }
        c.due("rule least", x.rule(0, 0, 0, 1), true);
        c.due("rule most", x.rule(0, 2, 2, 30), true);
        x.stands();
        c.due("rule when it stands", x.rule(0, 1, 1, 3), true);
        x.plan(0, 1, 0);
        x.feed(0, 8, 0, 0, 0);
        x.beat(2);
        c.due("MENDING is the STAGE's, as told last", x.state(0, 1), 3);
    }

    private static void setAside(Checks c) {
        MillLine x = clean(2);
        x.plan(0, 1, 2);
        x.stands();
        x.feed(0, 8, 0, 0, 0);
        x.feed(0, 9, 0, 0, 0);
        x.beat(3);
        int[] due = {0, 0, 2, 3, 8};
        for (int what = 0; what < 5; what++) {
            c.due("aside " + what, x.aside(0, what), due[what]);
        }
        int[][] none = {{0, 5}, {0, -1}, {1, 0}, {-1, 0}};
        for (int[] n : none) {
            c.due("aside " + java.util.Arrays.toString(n), x.aside(n[0], n[1]), -1);
        }
        c.due("LOTS SET ASIDE", x.count(4), 1);
        c.due("GRAMS SET ASIDE", x.total(4), 8);
        c.due("no WASTE", x.total(3), 0);
        c.due("mended", x.state(0, 0), 3);
        c.due("5 at first", x.state(0, 1), 5);
        c.due("has none", x.state(0, 6), -1);
        c.due("ENDED", x.state(0, 2), 1);
        c.due("not quiet", x.quiet(), 0);
        x.rule(0, 2, 0, 30);
        x.beat(4);
        c.due("one to go", x.state(0, 1), 1);
        c.due("BEATS mended", x.state(0, 5), 5);
        x.beat(1);
        c.due("works again", x.state(0, 0), 1);
        c.due("upon the next", x.state(0, 6), 1);
        c.due("BEATS mended in all", x.state(0, 5), 5);
        c.due("the end of MENDING is that of no WORKING", x.state(0, 2), 1);
        c.due("it never waited", x.state(0, 3), 0);
        x.beat(2);
        c.due("the second is clean", x.in(1, 0, 1), 5);
    }

    private static void setAsideBlend(Checks c) {
        MillLine x = Checks.bins(3, 5);
        Checks.add(x, 3, 4, 0, 1, Checks.row(0, 1), Checks.row(2));
        x.plan(3, 1, 1);
        x.stands();
        x.feed(1, 5, 0, 0, 0);
        x.feed(0, 6, 0, 0, 1);
        x.beat(2);
        c.due("both", x.count(4), 2);
        c.due("that of the first IN first", x.aside(0, 0), 1);
        c.due("then the other", x.aside(1, 0), 0);
        c.due("its STAGE", x.aside(1, 1), 3);
        c.due("its sort", x.aside(1, 2), 1);
        c.due("GRAMS", x.total(4), 11);
        c.due("as they came", x.part(1, 1), 1000000);
    }

    private static void goOn(Checks c) {
        MillLine x = clean(1);
        x.rule(0, 1, 1, 9);
        x.plan(0, 1, 1);
        x.stands();
        x.feed(0, 8, 0, 0, 0);
        x.beat(2);
        c.due("as it was", x.in(1, 0, 1), 8);
        c.due("then it WAITS", x.state(0, 0), 0);
        c.due("a FAULT all the same", x.state(0, 7), 1);
        goOnAfterRoll(c);
        MillLine y = Checks.bins(4, 1);
        Checks.add(y, 0, 2, 0, 1, Checks.row(0), Checks.row(1, 2, 3), 400, 300, 300);
        Checks.add(y, 1, 3, 2, 1, Checks.row(2), Checks.row(3, 1));
        y.rule(0, 0, 1, 1);
        y.plan(0, 1, 0);
        y.rule(1, 0, 1, 1);
        y.plan(1, 1, 0);
        y.stands();
        y.feed(1, 1, 0, 0, 0);
        y.feed(0, 100, 0, 0, 0);
        y.feed(2, 50, 9, 0, 0);
        y.beat(2);
        c.due("the whole LOT is pushed back", y.state(0, 8), 100);
        c.due("by its first OUT", y.state(0, 0), 2);
        c.due("SIFT: its first OUT, though above", y.in(3, 0, 0), 2);
        y.divert(0, 0, 2);
        y.beat(1);
        c.due("no new LOTS", y.count(1), 3);
        c.due("taken whole", y.state(1, 8), 100);
    }

    /** Nothing of the parts of an earlier WORKING is left. */
    private static void goOnAfterRoll(Checks c) {
        MillLine x = Checks.bins(3, 5);
        Checks.add(x, 0, 2, 0, 1, Checks.row(0), Checks.row(1, 2), 400, 600);
        x.rule(0, 0, 1, 1);
        x.plan(0, 2, 0);
        x.stands();
        x.feed(0, 100, 0, 0, 0);
        x.beat(2);
        c.due("has nothing", x.state(0, 8), 0);
        c.due("nothing in STAGES", x.total(6), 0);
        x.feed(0, 70, 0, 0, 0);
        x.beat(1);
        c.due("has the next", x.state(0, 8), 70);
        x.beat(1);
        c.due("went on whole", x.in(1, 1, 1), 70);
        c.due("no part besides", x.level(2, 0), 1);
        c.due("in BINS", x.total(5), 170);
    }

    private static void goOnAsSetAside(Checks c) {
        MillLine x = Checks.bins(4, 5);
        Checks.add(x, 0, 4, 0, 1, Checks.row(0, 1), Checks.row(2));
        Checks.add(x, 1, 5, 10, 1, Checks.row(3), Checks.row());
        for (int s = 0; s < 2; s++) {
            x.rule(s, 0, 1, 2);
            x.plan(s, 1, 0);
        }
        x.stands();
        x.feed(0, 1, 0, 0, 0);
        x.feed(1, 2, 0, 0, 0);
        x.feed(3, 30, 0, 0, 0);
        x.beat(2);
        c.due("three LOTS", x.count(4), 3);
        c.due("the first to be taken is first", x.aside(1, 0), 0);
        c.due("the greatest STAGE first", x.aside(0, 0), 2);
        c.due("BLEND mended", x.state(0, 1), 2);
        c.due("PACK mended", x.state(1, 0), 3);
        c.due("no SACKS", x.sacks(0), 0);
        x.beat(2);
        c.due("both wait", x.state(0, 0) + x.state(1, 0), 0);
        c.due("BEATS mended", x.state(1, 5), 2);
    }

    private static void stopLine(Checks c) {
        MillLine x = clean(1);
        x.rule(0, 0, 2, 1);
        x.plan(0, 1, 0);
        x.stands();
        x.feed(0, 8, 0, 0, 0);
        x.feed(0, 9, 0, 0, 0);
        x.beat(3);
        c.due("stopped", x.state(0, 0), 4);
        c.due("back at the front", x.in(0, 0, 0), 0);
        c.due("as it came", x.in(0, 0, 1), 8);
        c.due("ENDED", x.state(0, 2), 1);
        c.due("FAULTS", x.state(0, 7), 1);
        c.due("none aside", x.count(4), 0);
        c.due("stopped does not wait", x.state(0, 3), 0);
        c.due("quiet", x.quiet(), 1);
        c.due("BEATS go on", x.count(0), 3);
        x.command(1);
        c.due("waits", x.state(0, 0), 0);
        x.beat(2);
        c.due("the second time it is worked upon", x.in(1, 0, 1), 4);
        c.due("ENDED twice", x.state(0, 2), 2);
    }

    /** In (1), when 5 fails: 7 has ENDED and keeps what it has, 3 gives back what it works upon. */
    private static void stopAmongOthers(Checks c) {
        MillLine x = Checks.bins(9, 1);
        Checks.add(x, 3, 0, 500, 1, Checks.row(0), Checks.row(1));
        Checks.add(x, 5, 0, 500, 1, Checks.row(2), Checks.row(3));
        Checks.add(x, 7, 0, 500, 1, Checks.row(4), Checks.row(5));
        Checks.add(x, 9, 5, 10, 1, Checks.row(6), Checks.row());
        x.rule(5, 1, 2, 1);
        x.plan(5, 1, 1);
        x.stands();
        for (int b = 0; b <= 6; b += 2) {
            x.feed(b, 10 + b, 0, 0, 0);
        }
        x.beat(2);
        c.due("3 gave back", x.in(0, 0, 1), 10);
        c.due("5 gave back", x.in(2, 0, 1), 12);
        c.due("7 has put nothing", x.level(5, 0), 0);
        c.due("7 keeps it, worked upon", x.state(7, 8), 7);
        c.due("7 keeps its number", x.state(7, 6), 2);
        c.due("9 has packed", x.sacks(0), 1);
        c.due("9 has left", x.state(9, 8), 6);
        for (int s = 3; s <= 9; s += 2) {
            c.due("stopped " + s, x.state(s, 0), 4);
            c.due("pushed back at no end " + s, x.state(s, 4), 0);
        }
        c.due("3 has not ENDED", x.state(3, 2), 0);
        c.due("7 has ENDED", x.state(7, 2), 1);
        c.due("WASTE", x.total(3), 7);
        x.command(1);
        c.due("7 is pushed back", x.state(7, 0), 2);
        c.due("the others wait", x.state(3, 0) + x.state(5, 0) + x.state(9, 0), 0);
        x.beat(1);
        c.due("7 has put", x.in(5, 0, 1), 7);
        c.due("3 works", x.state(3, 0), 1);
    }

    private static void stopAndGo(Checks c) {
        MillLine x = Checks.bins(5, 2);
        Checks.add(x, 0, 4, 0, 4, Checks.row(0, 1), Checks.row(2));
        Checks.add(x, 1, 0, 500, 1, Checks.row(3), Checks.row(4));
        c.due("command before it stands", x.command(0), false);
        x.stands();
        c.due("command -1", x.command(-1), false);
        c.due("command 3", x.command(3), false);
        x.feed(0, 1, 0, 0, 0);
        x.feed(1, 2, 0, 0, 0);
        x.feed(3, 8, 0, 0, 0);
        x.feed(4, 1, 0, 0, 0);
        x.feed(4, 1, 0, 0, 0);
        x.beat(3);
        c.due("STOP", x.command(0), true);
        c.due("STOP again", x.command(0), true);
        c.due("first back", x.in(0, 0, 0), 0);
        c.due("second back", x.in(1, 0, 0), 1);
        c.due("1 keeps what it was pushed back with", x.state(1, 8), 4);
        c.due("nothing to go", x.state(0, 1), 0);
        c.due("BEATS pushed back so far", x.state(1, 4), 2);
        c.due("fed when stopped", x.feed(3, 10, 0, 0, 0), 5);
        x.divert(1, 0, 2);
        x.beat(2);
        c.due("nothing moved", x.level(2, 0), 0);
        c.due("no BEAT more", x.state(1, 4), 2);
        c.due("DRAIN", x.command(2), true);
        c.due("still stopped", x.state(0, 0), 4);
        c.due("GO", x.command(1), true);
        c.due("DRAIN is over", x.count(3), 0);
        c.due("1 is pushed back", x.state(1, 0), 2);
        c.due("0 waits", x.state(0, 0), 0);
        x.beat(1);
        c.due("put where it was turned to", x.in(2, 0, 1), 4);
        c.due("0 works anew", x.state(0, 1), 4);
        c.due("GO while it runs", x.command(1), true);
        c.due("changes nothing", x.state(0, 1), 4);
    }

    private static void beyondRoom(Checks c) {
        MillLine x = Checks.bins(2, 20);
        Checks.add(x, 0, 0, 0, 3, Checks.row(0), Checks.row(1));
        x.stands();
        for (int i = 0; i < 20; i++) {
            x.feed(0, 1 + i, 0, 0, 0);
        }
        x.beat(1);
        c.due("the place is free", x.feed(0, 50, 0, 0, 0), 20);
        x.command(0);
        c.due("beyond its ROOM", x.level(0, 0), 21);
        c.due("the first", x.in(0, 0, 0), 0);
        c.due("the 21st", x.in(0, 20, 1), 50);
        c.due("none behind", x.in(0, 21, 1), -1);
        c.due("full", x.feed(0, 1, 0, 0, 0), -1);
        c.due("at no end yet", x.level(0, 1), 19);
        x.beat(1);
        c.due("at an end", x.level(0, 1), 21);
        x.command(1);
        x.beat(1);
        c.due("taken again", x.level(0, 0), 20);
        c.due("still full", x.feed(0, 1, 0, 0, 0), -1);
        x.command(0);
        c.due("no more than one beyond", x.level(0, 0), 21);
        c.due("GRAMS", x.level(0, 3), 260);
    }

    private static void mendingStopped(Checks c) {
        MillLine x = clean(1);
        x.plan(0, 1, 0);
        x.stands();
        x.feed(0, 8, 0, 0, 0);
        x.beat(3);
        c.due("mended", x.state(0, 1), 4);
        x.command(0);
        c.due("stopped", x.state(0, 0), 4);
        c.due("mended no longer", x.state(0, 1), 0);
        x.beat(1);
        x.command(1);
        c.due("waits", x.state(0, 0), 0);
        c.due("BEATS mended", x.state(0, 5), 2);
        x.beat(1);
        c.due("BEATS waited", x.state(0, 3), 1);
    }
}
