/** FAULTS and commands, and promises 8, 9, 11 and 18, sentence by sentence. */
public final class FaultEdgesTest {
    public static void main(String[] args) {
        Checks c = new Checks();
        planNoSuch(c);
        planWhenSoManyHaveEnded(c);
        planPlannedAlready(c);
        planForty(c);
        firstAndThousandth(c);
        ruleNoSuch(c);
        rulesAreZeroAtFirst(c);
        ruleOfItsSortAndStage(c);
        mendingFiveAtFirst(c);
        mendingLeastAndMost(c);
        asTheyCame(c);
        setAsideOfBlend(c);
        goOnIntoTheFirst(c);
        goOnNeedsOnlyTheFirst(c);
        goOnPushedBack(c);
        goOnAfterAnother(c);
        goOnAsSetAside(c);
        backToTheFront(c);
        backBeyondRoom(c);
        stoppedAtOnce(c);
        stoppedKeepsDrain(c);
        commandNoSuch(c);
        stopEach(c);
        stopBeyondRoom(c);
        goEach(c);
        drainTillGo(c);
        asideNoSuch(c);
        asideMost(c);
        c.end();
    }

    private static MillLine all() {
        MillLine x = Checks.bins(16, 20);
        for (int s = 0; s <= 11; s++) {
            Checks.add(x, s, 0, 500, 1, Checks.row(s), Checks.row(15));
        }
        return x;
    }

    /** STAGE 0 alone, whose first WORKING fails by sort 0, after one LOT in each of its INS has gone through. */
    private static MillLine failed(int kind, int a, int way, int... shares) {
        MillLine x = Checks.one(kind, a, 1, 20, shares);
        x.rule(0, 0, way, 5);
        x.plan(0, 1, 0);
        x.feed(0, 1000, 9, 100, 0);
        x.feed(1, 500, 3, 50, 1);
        x.beat(2);
        return x;
    }

    private static void planNoSuch(Checks c) {
        c.by("P8 false: no such ones (STAGES 0 to 11)");
        c.range("STAGE", 0, 11, s -> all().plan(s, 1, 0));
        c.due("a STAGE that was not told", Checks.one(0, 0, 1, 1).plan(1, 1, 0), false);
        c.by("P8 the n-th WORKING (1 to 1000)");
        c.range("n", 1, 1000, n -> all().plan(0, n, 0));
        c.by("P8 a sort (0 STONE, 1 TORN, 2 WET)");
        c.range("sort", 0, 2, sort -> all().plan(0, 1, sort));
        MillLine x = all();
        x.plan(0, 0, 0);
        x.plan(0, 1001, 0);
        x.plan(0, 1, 3);
        c.due("none of those is planned", x.count(6), 0);
    }

    private static void planWhenSoManyHaveEnded(Checks c) {
        c.by("P8 false: so many have ENDED");
        MillLine x = Checks.one(0, 0, 1, 20);
        Checks.fill(x, 0, 5);
        x.beat(3);
        c.due("ENDED", x.state(0, 2), 2);
        c.due("the first", x.plan(0, 1, 0), false);
        c.due("the second", x.plan(0, 2, 0), false);
        c.due("the third, which WORKS", x.plan(0, 3, 0), true);
        x.beat(1);
        c.due("it fails", x.state(0, 7), 1);
        c.due("it has ENDED too", x.plan(0, 3, 1), false);
        c.due("FAULTS to come", x.count(6), 0);
    }

    private static void planPlannedAlready(Checks c) {
        c.by("P8 false: it is planned already");
        MillLine x = all();
        c.due("first", x.plan(0, 7, 0), true);
        for (int sort = 0; sort <= 2; sort++) {
            c.due("by sort " + sort, x.plan(0, 7, sort), false);
        }
        c.due("another WORKING", x.plan(0, 8, 0), true);
        c.due("another STAGE", x.plan(1, 7, 0), true);
        c.due("FAULTS to come", x.count(6), 3);
    }

    private static void planForty(Checks c) {
        c.by("P8 false: 40 were planned");
        MillLine x = all();
        for (int i = 0; i < 39; i++) {
            x.plan(i % 12, 1 + i / 12, 0);
        }
        c.due("the 40th", x.plan(11, 1000, 0), true);
        c.due("the 41st", x.plan(11, 999, 0), false);
        c.due("FAULTS to come", x.count(6), 40);
        x.stands();
        Checks.fill(x, 0, 1);
        x.beat(2);
        c.due("one has come", x.count(6), 39);
        c.due("40 were planned all the same", x.plan(11, 999, 0), false);
    }

    /** A CLEAN that feeds itself: after the first BEAT a WORKING ENDS in each. */
    private static void firstAndThousandth(Checks c) {
        c.by("FAULTS: the n-th WORKING of a STAGE that ENDS (from 1 on)");
        MillLine x = Checks.bins(1, 1);
        Checks.add(x, 0, 0, 0, 1, Checks.row(0), Checks.row(0));
        x.plan(0, 1000, 2);
        x.stands();
        Checks.fill(x, 0, 1);
        for (int i = 0; i < 5; i++) {
            x.beat(200);
        }
        c.due("999 have ENDED", x.state(0, 2), 999);
        c.due("no FAULT yet", x.state(0, 7), 0);
        c.due("one to come", x.count(6), 1);
        x.beat(1);
        c.due("1000 have ENDED", x.state(0, 2), 1000);
        c.due("a FAULT", x.state(0, 7), 1);
        c.due("its BEAT", x.aside(0, 3), 1001);
        c.due("none to come", x.count(6), 0);
        MillLine y = Checks.one(0, 0, 1, 20);
        y.plan(0, 1, 0);
        Checks.fill(y, 0, 1);
        y.beat(1);
        c.due("it WORKS: no FAULT yet", y.state(0, 7), 0);
        y.beat(1);
        c.due("the first", y.state(0, 7), 1);
        c.due("a FAULT is a WORKING that ENDED", y.state(0, 2), 1);
    }

    private static void ruleNoSuch(Checks c) {
        c.by("P9 false: no such ones (STAGES 0 to 11)");
        c.range("STAGE", 0, 11, s -> all().rule(s, 0, 0, 1));
        c.due("a STAGE that was not told", Checks.one(0, 0, 1, 1).rule(1, 0, 0, 1), false);
        c.by("P9 a sort 0 to 2");
        c.range("sort", 0, 2, sort -> all().rule(0, sort, 0, 1));
        c.by("P9 the RULE (0 to 2)");
        c.range("way", 0, 2, way -> all().rule(0, 0, way, 1));
        c.by("P9 MENDING, 1 to 30 BEATS");
        for (int way = 0; way <= 2; way++) {
            int w = way;
            c.range("MENDING of way " + w, 1, 30, mending -> all().rule(0, 0, w, mending));
        }
        MillLine x = Checks.one(0, 0, 1, 20);
        x.rule(0, 0, 1, 31);
        x.rule(0, 0, 3, 7);
        x.rule(0, 3, 1, 7);
        x.plan(0, 1, 0);
        Checks.fill(x, 0, 1);
        x.beat(2);
        c.due("refused: the RULE is 0 yet", x.count(4), 1);
        c.due("refused: MENDING is 5 yet", x.state(0, 1), 5);
    }

    private static void rulesAreZeroAtFirst(Checks c) {
        c.by("All RULES are 0 at first");
        for (int s = 0; s <= 11; s++) {
            MillLine x = all();
            x.plan(s, 1, s % 3);
            x.stands();
            Checks.fill(x, s, 1);
            x.beat(2);
            c.due("SET ASIDE by STAGE " + s, x.aside(0, 1), s);
            c.due("by sort", x.aside(0, 2), s % 3);
            c.due("MENDED", x.state(s, 0), 3);
        }
    }

    private static void ruleOfItsSortAndStage(Checks c) {
        c.by("By the STAGE's RULE for the sort");
        MillLine x = all();
        x.rule(0, 1, 1, 1);
        for (int sort = 0; sort <= 2; sort++) {
            x.plan(0, 1 + sort, sort);
            x.plan(1, 1 + sort, sort);
        }
        x.stands();
        Checks.fill(x, 0, 3);
        Checks.fill(x, 1, 3);
        x.beat(50);
        c.due("sorts 0 and 2 of STAGE 0, all of STAGE 1", x.count(4), 5);
        c.due("sort 1 of STAGE 0 went on", x.in(15, 0, 0), 1);
        c.due("FAULTS of 0", x.state(0, 7), 3);
        c.due("FAULTS of 1", x.state(1, 7), 3);
        c.due("its own MENDING", x.state(0, 5), 2);
        c.due("5 each at first", x.state(1, 5), 15);
    }

    private static int beatsMended(int mending) {
        MillLine x = Checks.one(0, 0, 1, 20);
        if (mending > 0) {
            x.rule(0, 0, 0, mending);
        }
        x.plan(0, 1, 0);
        Checks.fill(x, 0, 1);
        x.beat(100);
        return x.state(0, 5);
    }

    private static void mendingFiveAtFirst(Checks c) {
        c.by("MENDING 5 at first");
        c.due("BEATS MENDED", beatsMended(0), 5);
        MillLine x = Checks.one(0, 0, 1, 20);
        x.plan(0, 1, 0);
        Checks.fill(x, 0, 1);
        x.beat(2);
        for (int toGo = 5; toGo >= 1; toGo--) {
            c.due("to go", x.state(0, 1), toGo);
            c.due("MENDED", x.state(0, 0), 3);
            x.beat(1);
        }
        c.due("WAITS", x.state(0, 0), 0);
    }

    private static void mendingLeastAndMost(Checks c) {
        c.by("the STAGE is MENDED for its MENDING, 1 to 30 BEATS");
        c.due("least", beatsMended(1), 1);
        c.due("most", beatsMended(30), 30);
    }

    private static void asTheyCame(Checks c) {
        c.by("FAULTS: its LOTS are as they came; 0 they are SET ASIDE");
        int[] as = {900, 500, 0, 0, 0, 100};
        for (int kind = 0; kind <= 5; kind++) {
            MillLine x = failed(kind, as[kind], 0, 500, 500);
            c.due("LOT of KIND " + kind, x.aside(0, 0), 0);
            c.due("GRAMS of KIND " + kind, x.aside(0, 4), 1000);
            c.due("BEAT", x.aside(0, 3), 2);
            c.due("LOTS", x.count(4), kind == 4 ? 2 : 1);
            c.due("GRAMS SET ASIDE", x.total(4), kind == 4 ? 1500 : 1000);
            c.due("WATER, PACKED, WASTE", x.total(1) + x.total(2) + x.total(3), 0);
            c.due("no new LOT", x.count(1), 2);
            c.due("PART", x.part(0, 0), 1000000);
            c.due("nothing put", x.level(3, 0) + x.level(4, 0), 0);
            c.due("MENDED", x.state(0, 0), 3);
            c.due("it has none", x.state(0, 6), -1);
            c.due("it has no GRAMS", x.state(0, 8), 0);
        }
    }

    private static void setAsideOfBlend(Checks c) {
        c.by("SET ASIDE: the LOTS of a BLEND, in order of its INS");
        MillLine x = Checks.one(4, 0, 1, 20);
        x.plan(0, 1, 2);
        x.feed(1, 7, 0, 0, 0);
        x.feed(0, 9, 0, 0, 0);
        x.beat(2);
        int[][] due = {{1, 0, 2, 2, 9}, {0, 0, 2, 2, 7}};
        for (int i = 0; i < 2; i++) {
            for (int what = 0; what < 5; what++) {
                c.due("aside " + i + " " + what, x.aside(i, what), due[i][what]);
            }
        }
    }

    private static void goOnIntoTheFirst(Checks c) {
        c.by("1 they GO ON as they are: into its first OUT, then it WAITS");
        int[] as = {900, 500, 0, 0};
        for (int kind = 0; kind <= 3; kind++) {
            MillLine x = failed(kind, as[kind], 1, 500, 500);
            int[] due = {0, 1000, 9, 100};
            for (int what = 0; what <= 3; what++) {
                c.due("KIND " + kind + " " + what, x.in(3, 0, what), due[what]);
            }
            c.due("nothing in its second", x.level(4, 0), 0);
            c.due("no new LOT", x.count(1), 2);
            c.due("WAITS", x.state(0, 0), 0);
            c.due("not MENDED", x.state(0, 5), 0);
            c.due("a FAULT", x.state(0, 7), 1);
            c.due("none aside", x.count(4), 0);
            c.due("WATER and WASTE", x.total(1) + x.total(3), 0);
        }
    }

    private static void goOnNeedsOnlyTheFirst(Checks c) {
        c.by("1 into its first OUT: the others may be full, and no number is needed");
        MillLine x = Checks.withLots(1499, y -> {
            Checks.add(y, 0, 2, 0, 1, Checks.row(0), Checks.row(1, 13), 500, 500);
            y.rule(0, 2, 1, 1);
            y.plan(0, 1, 2);
        });
        x.feed(0, 100, 0, 0, 0);
        x.beat(2);
        c.due("LOTS", x.count(1), 1500);
        c.due("BIN 13 is full", x.level(13, 0), 20);
        c.due("put whole", x.in(1, 0, 1), 100);
    }

    private static void goOnPushedBack(Checks c) {
        c.by("1 into its first OUT: if that is full, it is PUSHED BACK with them");
        for (int kind = 0; kind <= 3; kind++) {
            MillLine x = Checks.one(kind, 1, 1, 1, 500, 500);
            x.rule(0, 0, 1, 5);
            x.plan(0, 1, 0);
            Checks.fill(x, 3, 1);
            x.feed(0, 1000, 9, 0, 0);
            x.beat(2);
            c.due("PUSHED BACK", x.state(0, 0), 2);
            c.due("with all", x.state(0, 8), 1000);
            c.due("nothing to go", x.state(0, 1), 0);
            c.due("it could not put", x.quiet(), 1);
            x.divert(0, 0, 5);
            x.beat(1);
            c.due("put as it was", x.in(5, 0, 1), 1000);
            c.due("WAITS", x.state(0, 0), 0);
        }
    }

    /** What a STAGE put before, and where, has no hold on what GOES ON. */
    private static void goOnAfterAnother(Checks c) {
        c.by("1 as they are: into its first OUT, also after a WORKING that put into others");
        for (int kind = 2; kind <= 3; kind++) {
            MillLine x = Checks.one(kind, 0, 1, 20, 500, 500);
            x.rule(0, 0, 1, 5);
            x.plan(0, 2, 0);
            x.feed(0, 10, 9, 0, 0);
            x.feed(0, 30, 9, 0, 0);
            x.beat(2);
            c.due("KIND " + kind + ": put into its second", x.level(4, 0), 1);
            c.due("it has the other alone", x.state(0, 8), 30);
            int before = x.level(3, 0);
            x.beat(1);
            c.due("KIND " + kind + ": GRAMS that went on", x.in(3, before, 1), 30);
            c.due("its second has no more", x.level(4, 0), 1);
            c.due("LOTS", x.count(1), kind == 2 ? 3 : 2);
            c.due("it has nothing", x.state(0, 8), 0);
        }
    }

    private static void goOnAsSetAside(Checks c) {
        c.by("1 of PACK and BLEND: as 0");
        MillLine x = failed(4, 0, 1);
        c.due("BLEND: both aside", x.count(4), 2);
        c.due("BLEND: MENDED", x.state(0, 1), 5);
        c.due("BLEND: nothing put", x.level(3, 0), 0);
        MillLine y = failed(5, 100, 1);
        c.due("PACK: aside", y.count(4), 1);
        c.due("PACK: MENDED", y.state(0, 1), 5);
        c.due("PACK: no SACKS", y.sacks(9), 0);
        c.due("PACK: nothing left", y.state(0, 8), 0);
    }

    private static void backToTheFront(Checks c) {
        c.by("2 they go back to the front of their INS");
        int[] as = {900, 500, 0, 0, 0, 100};
        for (int kind = 0; kind <= 5; kind++) {
            MillLine x = Checks.one(kind, as[kind], 1, 20, 500, 500);
            x.rule(0, 0, 2, 5);
            x.plan(0, 1, 0);
            for (int b = 0; b < 2; b++) {
                x.feed(b, 1000, 9, 100, 0);
                x.feed(b, 5, 1, 1, 0);
            }
            x.beat(2);
            for (int b = 0; b < (kind == 4 ? 2 : 1); b++) {
                int[] due = {2 * b, 1000, 9, 100};
                for (int what = 0; what <= 3; what++) {
                    c.due("KIND " + kind + " BIN " + b + " " + what, x.in(b, 0, what), due[what]);
                }
                c.due("the other is behind", x.in(b, 1, 0), 2 * b + 1);
            }
            c.due("STOPPED", x.state(0, 0), 4);
            c.due("it has none", x.state(0, 6), -1);
            c.due("none aside", x.count(4), 0);
            c.due("ENDED", x.state(0, 2), 1);
            c.due("FAULTS", x.state(0, 7), 1);
            c.due("to come", x.count(6), 0);
            c.due("WATER, PACKED, WASTE", x.total(1) + x.total(2) + x.total(3), 0);
        }
    }

    private static void backBeyondRoom(Checks c) {
        c.by("2 as by STOP: also beyond their ROOM");
        int[] rooms = {1, 20};
        for (int room : rooms) {
            MillLine x = Checks.one(4, 0, 1, room);
            x.rule(0, 0, 2, 5);
            x.plan(0, 1, 0);
            Checks.fill(x, 0, room);
            Checks.fill(x, 1, room);
            x.beat(1);
            Checks.fill(x, 0, 1);
            Checks.fill(x, 1, 1);
            x.beat(1);
            for (int b = 0; b < 2; b++) {
                c.due("LOTS of ROOM " + room, x.level(b, 0), room + 1);
                c.due("the first", x.in(b, 0, 0), b * room);
                c.due("the last", x.in(b, room, 0), 2 * room + b);
                c.due("at the end of that BEAT", x.level(b, 1), room + 1);
            }
        }
    }

    /**
     * STAGE 6 fails; 11 and the PACK 9 END before it, 8 is MENDED, 3 would END after it, 1 would take, 0 would put.
     */
    private static void stoppedAtOnce(Checks c) {
        c.by("2 and THE LINE is STOPPED, at once, as by STOP");
        MillLine x = Checks.bins(16, 1);
        int[] told = {11, 9, 8, 6, 3, 1, 0};
        for (int s : told) {
            int beats = s == 11 || s == 9 || s == 6 || s == 3 ? 2 : 1;
            int[] outs = s == 9 ? Checks.row() : Checks.row(s == 0 ? 13 : 14);
            Checks.add(x, s, s == 9 ? 5 : 0, 500, beats, Checks.row(s), outs);
        }
        x.rule(6, 1, 2, 5);
        x.plan(6, 1, 1);
        x.plan(8, 1, 0);
        x.stands();
        x.feed(13, 1, 0, 0, 0);
        for (int s : told) {
            if (s != 1) {
                x.feed(s, 10 + s, 0, 0, 0);
            }
        }
        x.beat(2);
        c.due("8 is MENDED before", x.state(8, 0), 3);
        c.due("0 is PUSHED BACK before", x.state(0, 0), 2);
        x.divert(0, 0, 15);
        x.feed(1, 11, 0, 0, 0);
        x.beat(1);
        for (int s : told) {
            c.due("STOPPED " + s, x.state(s, 0), 4);
            c.due("nothing to go " + s, x.state(s, 1), 0);
        }
        c.due("11 has ENDED", x.state(11, 2), 1);
        c.due("11 keeps what it has, worked upon", x.state(11, 8), 11);
        c.due("11 has put nothing", x.level(14, 0), 0);
        c.due("9 has ENDED", x.state(9, 2), 1);
        c.due("9 has no LOT", x.state(9, 6), -1);
        c.due("9 has it left", x.state(9, 8), 19);
        c.due("6 gave back, as it came", x.in(6, 0, 1), 16);
        c.due("3 has not ENDED", x.state(3, 2), 0);
        c.due("3 gave back, as it came", x.in(3, 0, 1), 13);
        c.due("1 took nothing", x.level(1, 0), 1);
        c.due("0 put nothing", x.level(15, 0), 0);
        c.due("0 keeps what it has", x.state(0, 8), 5);
        c.due("WASTE of 11 and 0", x.total(3), 15);
        c.due("quiet", x.quiet(), 1);
        x.command(1);
        int[] then = {2, 0, 0, 0, 0, 0, 2};
        for (int i = 0; i < told.length; i++) {
            c.due("after GO " + told[i], x.state(told[i], 0), then[i]);
        }
    }

    private static void stoppedKeepsDrain(Checks c) {
        c.by("2 as by STOP: DRAIN is neither begun nor ended");
        for (int drain = 0; drain <= 1; drain++) {
            MillLine x = Checks.one(0, 0, 1, 5);
            x.rule(0, 0, 2, 5);
            x.plan(0, 1, 0);
            Checks.fill(x, 0, 1);
            if (drain == 1) {
                x.command(2);
            }
            x.beat(2);
            c.due("STOPPED", x.state(0, 0), 4);
            c.due("DRAIN", x.count(3), drain);
        }
    }

    private static void commandNoSuch(Checks c) {
        c.by("P11 0 STOP, 1 GO, 2 DRAIN; false: no such one");
        c.range("command", 0, 2, what -> Checks.one(0, 0, 1, 1).command(what));
        c.by("P11 false: THE LINE does not stand");
        MillLine x = Checks.bins(2, 1);
        Checks.add(x, 0, 0, 0, 1, Checks.row(0), Checks.row(1));
        for (int what = -1; what <= 3; what++) {
            c.due("command " + what, x.command(what), false);
            c.due("command of a new object " + what, new MillLine().command(what), false);
        }
        c.due("not STOPPED", x.state(0, 0), 0);
        c.due("no DRAIN", x.count(3), 0);
    }

    /** STAGES that WAIT (0), WORK (1), are PUSHED BACK (2) and MENDED (3). */
    private static MillLine ofEachState() {
        MillLine x = Checks.bins(6, 1);
        Checks.add(x, 0, 0, 500, 1, Checks.row(0), Checks.row(5));
        Checks.add(x, 1, 0, 500, 9, Checks.row(1), Checks.row(5));
        Checks.add(x, 2, 0, 500, 1, Checks.row(2), Checks.row(4));
        Checks.add(x, 3, 0, 500, 1, Checks.row(3), Checks.row(5));
        x.plan(3, 1, 0);
        x.stands();
        x.feed(4, 1, 0, 0, 0);
        x.feed(1, 10, 0, 0, 0);
        x.feed(2, 20, 0, 0, 0);
        x.feed(3, 30, 0, 0, 0);
        x.beat(2);
        return x;
    }

    private static void dueStates(Checks c, String text, MillLine x, int... states) {
        for (int s = 0; s < states.length; s++) {
            c.due(text + ": STAGE " + s, x.state(s, 0), states[s]);
        }
    }

    private static void stopEach(Checks c) {
        c.by("STOP: each STAGE is STOPPED");
        MillLine x = ofEachState();
        dueStates(c, "before", x, 0, 1, 2, 3);
        c.due("STOP", x.command(0), true);
        dueStates(c, "STOPPED", x, 4, 4, 4, 4);
        c.by("STOP: what it WORKS upon goes back, as it came");
        c.due("GRAMS", x.in(1, 0, 1), 10);
        c.due("it has none", x.state(1, 6), -1);
        c.due("it has not ENDED", x.state(1, 2), 0);
        c.by("STOP: what it was PUSHED BACK with stays with it");
        c.due("LOT", x.state(2, 6), 2);
        c.due("GRAMS", x.state(2, 8), 10);
        c.due("in STAGES", x.total(6), 10);
        c.by("STOP: what is MENDED is so no longer");
        c.due("to go", x.state(3, 1), 0);
        x.beat(1);
        c.due("BEATS MENDED", x.state(3, 5), 1);
        c.by("STOP: of a line that is STOPPED nothing changes");
        c.due("STOP again", x.command(0), true);
        dueStates(c, "STOPPED", x, 4, 4, 4, 4);
        c.due("LOT", x.state(2, 6), 2);
        c.due("LOTS in BIN 1", x.level(1, 0), 1);
    }

    private static void stopBeyondRoom(Checks c) {
        c.by("STOP: to the front of its INS (also beyond their ROOM)");
        for (int room = 1; room <= 20; room++) {
            MillLine x = Checks.one(0, 0, 9, room);
            Checks.fill(x, 0, room);
            x.beat(1);
            Checks.fill(x, 0, 1);
            x.command(0);
            c.due("LOTS", x.level(0, 0), room + 1);
            c.due("the front", x.in(0, 0, 0), 0);
            c.due("the last", x.in(0, room, 0), room);
            x.command(1);
            x.beat(1);
            x.command(0);
            c.due("not one more", x.level(0, 0), room + 1);
            c.due("the front again", x.in(0, 0, 0), 0);
        }
        MillLine y = Checks.one(4, 0, 9, 5);
        y.feed(0, 3, 0, 0, 0);
        y.feed(1, 4, 0, 0, 0);
        y.beat(1);
        c.due("empty BINS", y.level(0, 0) + y.level(1, 0), 0);
        y.command(0);
        c.due("the first IN's", y.in(0, 0, 1), 3);
        c.due("the second IN's", y.in(1, 0, 1), 4);
        c.due("it has nothing", y.state(0, 8), 0);
        c.due("nothing in STAGES", y.total(6), 0);
    }

    private static void goEach(Checks c) {
        c.by("GO: STAGES that were STOPPED WAIT (with what they were PUSHED BACK with: are PUSHED BACK)");
        MillLine x = ofEachState();
        x.command(0);
        c.due("GO", x.command(1), true);
        dueStates(c, "after GO", x, 0, 0, 2, 0);
        x.beat(1);
        c.due("1 takes it anew", x.state(1, 1), 9);
        c.by("GO: STAGES that were not STOPPED stay as they are");
        MillLine y = ofEachState();
        c.due("GO", y.command(1), true);
        dueStates(c, "as before", y, 0, 1, 2, 3);
        c.due("to go of 1", y.state(1, 1), 8);
        c.due("to go of 3", y.state(3, 1), 5);
    }

    private static void drainTillGo(Checks c) {
        c.by("DRAIN: changes no STAGE");
        MillLine x = ofEachState();
        c.due("DRAIN", x.command(2), true);
        dueStates(c, "as before", x, 0, 1, 2, 3);
        c.due("on", x.count(3), 1);
        c.due("again", x.command(2), true);
        c.due("on yet", x.count(3), 1);
        c.by("DRAIN: till GO");
        x.command(0);
        c.due("STOP", x.count(3), 1);
        x.command(2);
        dueStates(c, "DRAIN is no GO", x, 4, 4, 4, 4);
        x.command(1);
        c.due("GO", x.count(3), 0);
    }

    private static void asideNoSuch(Checks c) {
        c.by("P18 NONE for others");
        for (int what = -1; what <= 5; what++) {
            c.due("of a new object " + what, new MillLine().aside(0, what), -1);
            c.due("none yet " + what, Checks.one(0, 0, 1, 1).aside(0, what), -1);
        }
        MillLine x = failed(0, 0, 0);
        c.numbers("i", 0, 0, i -> x.aside(i, 0));
        c.numbers("what", 0, 4, what -> x.aside(0, what));
        MillLine y = failed(4, 0, 0);
        c.numbers("i of two", 0, 1, i -> y.aside(i, 0));
    }

    /** 40 FAULTS of a BLEND, with two LOTS each. */
    private static void asideMost(Checks c) {
        c.by("P18 the i-th LOT SET ASIDE, of as many as can be");
        MillLine x = Checks.one(4, 0, 1, 20);
        x.rule(0, 0, 0, 1);
        for (int n = 1; n <= 40; n++) {
            x.plan(0, n, 0);
        }
        for (int half = 0; half < 2; half++) {
            Checks.fill(x, 0, 20);
            Checks.fill(x, 1, 20);
            x.beat(41);
        }
        c.due("LOTS SET ASIDE", x.count(4), 80);
        c.due("GRAMS SET ASIDE", x.total(4), 80);
        c.numbers("i", 0, 79, i -> x.aside(i, 0));
        c.due("the last LOT", x.aside(79, 0), 79);
        c.due("none to come", x.count(6), 0);
    }
}
