/** Promises 1 to 6, sentence by sentence: what is taken last, what is refused first, and what lacks. */
public final class LayoutEdgesTest {
    private static final int LOW = Integer.MIN_VALUE;
    private static final int HIGH = Integer.MAX_VALUE;
    /** By KIND: how many INS it needs, how many OUTS it needs, and how many OUTS it may have. */
    private static final int[] INS = {1, 1, 1, 1, 2, 1};
    private static final int[] OUTS = {1, 1, 2, 2, 1, 0};
    private static final int[] MOST_OUTS = {1, 1, 3, 2, 1, 0};

    public static void main(String[] args) {
        Checks c = new Checks();
        newObject(c);
        binNumbers(c);
        rooms(c);
        binWasTold(c);
        binWhenItStands(c);
        stageNumbers(c);
        kinds(c);
        numbersOfKinds(c);
        beatsOfWorking(c);
        stageWasTold(c);
        stageWhenItStands(c);
        fromNoSuch(c);
        fromAsManyAsNeeded(c);
        fromWhenItStands(c);
        toNoSuch(c);
        toAsManyAsNeeded(c);
        sharesOfRoll(c);
        sharesOfOthers(c);
        toWhenItStands(c);
        standsWithoutStage(c);
        standsTwice(c);
        lacksIns(c);
        lacksOuts(c);
        lacksShares(c);
        inOfLower(c);
        inTwice(c);
        firstLackOfAll(c);
        lackIsMended(c);
        fullestLine(c);
        c.end();
    }

    private static void newObject(Checks c) {
        c.by("P1 No BINS, no STAGES");
        MillLine x = new MillLine();
        for (int b = 0; b <= 15; b++) {
            c.due("ROOM of BIN " + b, x.level(b, 2), -1);
        }
        for (int s = 0; s <= 11; s++) {
            c.due("STAGE " + s, x.state(s, 0), -1);
        }
        c.due("STAGES told", x.count(5), 0);
        c.due("stands", x.count(2), 0);
    }

    private static void binNumbers(Checks c) {
        c.by("P2 BINS 0 to 15");
        c.range("bin", 0, 15, b -> new MillLine().bin(b, 1));
        MillLine x = new MillLine();
        for (int b = 0; b <= 15; b++) {
            c.due("bin " + b, x.bin(b, b + 1), true);
        }
        for (int b = 0; b <= 15; b++) {
            c.due("ROOM of BIN " + b, x.level(b, 2), b + 1);
        }
    }

    private static void rooms(Checks c) {
        c.by("P2 a ROOM of 1 to 20");
        c.range("room", 1, 20, room -> new MillLine().bin(0, room));
        MillLine x = new MillLine();
        x.bin(0, 21);
        c.due("a refused BIN is none", x.level(0, 0), -1);
        c.due("it can be told yet", x.bin(0, 20), true);
    }

    private static void binWasTold(Checks c) {
        c.by("P2 false: it was told");
        MillLine x = Checks.bins(1, 4);
        c.due("with another ROOM", x.bin(0, 5), false);
        c.due("with the same ROOM", x.bin(0, 4), false);
        c.due("its ROOM is the first", x.level(0, 2), 4);
    }

    private static void binWhenItStands(Checks c) {
        c.by("P2 false: it stands already");
        MillLine x = Checks.one(0, 0, 1, 1);
        c.due("bin", x.bin(6, 1), false);
        c.due("there is none", x.level(6, 0), -1);
    }

    private static void stageNumbers(Checks c) {
        c.by("P3 STAGES 0 to 11");
        c.range("stage", 0, 11, s -> new MillLine().stage(s, 0, 0, 1));
        MillLine x = new MillLine();
        for (int s = 0; s <= 11; s++) {
            c.due("stage " + s, x.stage(s, s % 6, 1, 1), true);
            c.due("STAGES told", x.count(5), s + 1);
        }
    }

    private static void kinds(Checks c) {
        c.by("P3 a KIND, 0 to 5");
        c.range("kind", 0, 5, kind -> new MillLine().stage(0, kind, 1, 1));
        MillLine x = new MillLine();
        x.stage(0, 6, 1, 1);
        c.due("a refused STAGE is none", x.state(0, 0), -1);
        c.due("STAGES told", x.count(5), 0);
    }

    private static void numbersOfKinds(Checks c) {
        c.by("P3 CLEAN: a 0 to 900");
        c.range("a", 0, 900, a -> new MillLine().stage(0, 0, a, 1));
        c.by("P3 TEMPER: a 1 to 500");
        c.range("a", 1, 500, a -> new MillLine().stage(0, 1, a, 1));
        c.by("P3 SIFT: a 0 to 9");
        c.range("a", 0, 9, a -> new MillLine().stage(0, 3, a, 1));
        c.by("P3 PACK: a 1 to 50000");
        c.range("a", 1, 50000, a -> new MillLine().stage(0, 5, a, 1));
        c.by("P3 a of 2, 4 is not looked at");
        int[] any = {LOW, -1, 0, 50001, HIGH};
        for (int a : any) {
            c.due("ROLL " + a, new MillLine().stage(0, 2, a, 1), true);
            c.due("BLEND " + a, new MillLine().stage(0, 4, a, 1), true);
        }
    }

    private static void beatsOfWorking(Checks c) {
        c.by("P3 BEATS 1 to 20");
        for (int kind = 0; kind < 6; kind++) {
            int k = kind;
            c.range("beats of KIND " + k, 1, 20, beats -> new MillLine().stage(0, k, 1, beats));
        }
    }

    private static void stageWasTold(Checks c) {
        c.by("P3 false: it was told");
        MillLine x = Checks.bins(2, 1);
        x.stage(4, 4, 0, 1);
        c.due("of another KIND", x.stage(4, 0, 0, 1), false);
        c.due("of the same KIND", x.stage(4, 4, 0, 1), false);
        x.from(4, 0);
        c.due("it is a BLEND yet", x.from(4, 1), 2);
        c.due("STAGES told", x.count(5), 1);
    }

    private static void stageWhenItStands(Checks c) {
        c.by("P3 false: it stands already");
        MillLine x = Checks.one(0, 0, 1, 1);
        c.due("stage", x.stage(1, 0, 0, 1), false);
        c.due("there is none", x.state(1, 0), -1);
        c.due("STAGES told", x.count(5), 1);
    }

    private static MillLine all(int kind) {
        MillLine x = Checks.bins(16, 1);
        for (int s = 0; s <= 11; s++) {
            x.stage(s, kind, 1, 1);
        }
        return x;
    }

    private static void fromNoSuch(Checks c) {
        c.by("P4 NONE: no such ones");
        c.numbers("from STAGE", 0, 11, s -> all(0).from(s, 0));
        c.numbers("from BIN", 0, 15, b -> all(0).from(0, b));
        MillLine x = Checks.bins(1, 1);
        x.stage(0, 0, 0, 1);
        c.due("a STAGE that was not told", x.from(1, 0), -1);
        c.due("a BIN that was not told", x.from(0, 1), -1);
        c.due("none of these is an IN", x.from(0, 0), 1);
    }

    private static void fromAsManyAsNeeded(Checks c) {
        c.by("P4 NONE: it has as many as its KIND needs");
        for (int kind = 0; kind < 6; kind++) {
            MillLine x = all(kind);
            for (int i = 1; i <= INS[kind]; i++) {
                c.due("IN of KIND " + kind, x.from(11, i), i);
            }
            c.due("one more of KIND " + kind, x.from(11, 15), -1);
            c.due("another STAGE has its own", x.from(0, 0), 1);
        }
    }

    private static void fromWhenItStands(Checks c) {
        c.by("P4 NONE: THE LINE stands");
        for (int kind = 0; kind < 6; kind++) {
            MillLine x = Checks.one(kind, 1, 1, 1, 500, 500);
            c.due("it stands", x.count(2), 1);
            c.due("IN of KIND " + kind, x.from(0, 5), -1);
        }
    }

    private static void toNoSuch(Checks c) {
        c.by("P5 NONE: no such ones");
        c.numbers("to STAGE", 0, 11, s -> all(0).to(s, 0, 0));
        c.numbers("to BIN", 0, 15, b -> all(0).to(0, b, 0));
        MillLine x = Checks.bins(1, 1);
        x.stage(0, 0, 0, 1);
        c.due("a STAGE that was not told", x.to(1, 0, 1), -1);
        c.due("a BIN that was not told", x.to(0, 1, 1), -1);
        c.due("it has no OUT", x.state(0, 9), -1);
        c.due("none of these is an OUT", x.to(0, 0, 1), 1);
    }

    private static void toAsManyAsNeeded(Checks c) {
        c.by("P5 how many it has; NONE: as many as its KIND needs (ROLL: three)");
        for (int kind = 0; kind < 6; kind++) {
            MillLine x = all(kind);
            for (int i = 1; i <= MOST_OUTS[kind]; i++) {
                c.due("OUT of KIND " + kind, x.to(11, i, 1), i);
            }
            c.due("one more of KIND " + kind, x.to(11, 15, 1), -1);
            c.due("its first OUT", x.state(11, 9), kind == 5 ? -1 : 1);
        }
    }

    private static void sharesOfRoll(Checks c) {
        c.by("P5 a SHARE of ROLL 1 to 999");
        c.numbers("the first", 1, 999, share -> all(2).to(0, 0, share));
        c.numbers("the second", 1, 999, share -> {
            MillLine x = all(2);
            x.to(0, 0, 1);
            return x.to(0, 1, share);
        });
        c.numbers("the third", 1, 999, share -> {
            MillLine x = all(2);
            x.to(0, 0, 1);
            x.to(0, 1, 1);
            return x.to(0, 2, share);
        });
    }

    private static void sharesOfOthers(Checks c) {
        c.by("P5 of others it is not looked at");
        int[] any = {LOW, -1, 0, 1000, HIGH};
        int[] kinds = {0, 1, 3, 4};
        for (int kind : kinds) {
            for (int share : any) {
                MillLine x = Checks.bins(6, 1);
                Checks.add(x, 0, kind, 1, 1, kind == 4 ? Checks.row(0, 1) : Checks.row(0), Checks.row());
                for (int i = 1; i <= OUTS[kind]; i++) {
                    c.due("KIND " + kind + " SHARE " + share, x.to(0, 2 + i, share), i);
                }
                c.due("nor by stands", x.stands(), 0);
            }
        }
    }

    private static void toWhenItStands(Checks c) {
        c.by("P5 NONE: THE LINE stands");
        MillLine x = Checks.one(2, 0, 1, 5, 500, 500);
        c.due("a ROLL's third, when it stands with two", x.to(0, 5, 1), -1);
        c.due("it has none such", x.divert(0, 2, 5), false);
        MillLine y = Checks.one(0, 0, 1, 5);
        c.due("a CLEAN's second", y.to(0, 4, 1), -1);
    }

    private static void standsWithoutStage(Checks c) {
        c.by("P6 NONE: there is no STAGE");
        c.due("a new object", new MillLine().stands(), -1);
        MillLine x = Checks.bins(16, 20);
        c.due("BINS alone", x.stands(), -1);
        c.due("it does not stand", x.count(2), 0);
    }

    private static void standsTwice(Checks c) {
        c.by("P6 NONE: it stands already");
        MillLine x = Checks.bins(1, 1);
        Checks.add(x, 0, 5, 1, 1, Checks.row(0), Checks.row());
        c.due("first", x.stands(), 0);
        c.due("again", x.stands(), -1);
        c.due("it stands", x.count(2), 1);
    }

    private static void lacksIns(Checks c) {
        c.by("P6 1 INS (too few)");
        for (int kind = 0; kind < 6; kind++) {
            MillLine x = Checks.bins(6, 1);
            int[] outs = java.util.Arrays.copyOf(Checks.row(3, 4), OUTS[kind]);
            Checks.add(x, 11, kind, 1, 1, Checks.row(), outs, 500, 500);
            for (int i = 0; i < INS[kind]; i++) {
                c.due("KIND " + kind + " with " + i, x.stands(), 1101);
                x.from(11, i);
            }
            c.due("KIND " + kind + " with all", x.stands(), 0);
        }
    }

    private static void lacksOuts(Checks c) {
        c.by("P6 2 OUTS (too few)");
        for (int kind = 0; kind < 6; kind++) {
            MillLine x = Checks.bins(6, 1);
            Checks.add(x, 0, kind, 1, 1, java.util.Arrays.copyOf(Checks.row(0, 1), INS[kind]), Checks.row());
            for (int i = 0; i < OUTS[kind]; i++) {
                c.due("KIND " + kind + " with " + i, x.stands(), 2);
                x.to(0, 3 + i, 500);
            }
            c.due("KIND " + kind + " with all", x.stands(), 0);
        }
    }

    private static int standsWithShares(int... shares) {
        MillLine x = Checks.bins(4, 1);
        Checks.add(x, 7, 2, 0, 1, Checks.row(0), java.util.Arrays.copyOf(Checks.row(1, 2, 3), shares.length), shares);
        return x.stands();
    }

    private static void lacksShares(Checks c) {
        c.by("P6 3 SHARES: 1000 together");
        c.due("two, 999", standsWithShares(500, 499), 703);
        c.due("two, 1000", standsWithShares(500, 500), 0);
        c.due("two, 1001", standsWithShares(500, 501), 703);
        c.due("two, 1 and 999", standsWithShares(1, 999), 0);
        c.due("two, 999 and 1", standsWithShares(999, 1), 0);
        c.due("three, 999", standsWithShares(333, 333, 333), 703);
        c.due("three, 1000", standsWithShares(333, 334, 333), 0);
        c.due("three, 1001", standsWithShares(334, 333, 334), 703);
        c.due("three, the first two are 1000", standsWithShares(500, 500, 1), 703);
        c.due("three, least and most", standsWithShares(1, 998, 1), 0);
        c.due("three, 3", standsWithShares(1, 1, 1), 703);
        c.due("three, 2997", standsWithShares(999, 999, 999), 703);
    }

    private static int standsWithIns(int[] lower, int[] higher) {
        MillLine x = Checks.bins(6, 1);
        Checks.add(x, 2, lower.length == 2 ? 4 : 0, 0, 1, lower, Checks.row(5));
        Checks.add(x, 3, higher.length == 2 ? 4 : 0, 0, 1, higher, Checks.row(5));
        return x.stands();
    }

    private static void inOfLower(Checks c) {
        c.by("P6 4 one of its INS is that of a lower STAGE");
        c.due("one and one", standsWithIns(Checks.row(1), Checks.row(1)), 304);
        c.due("its first", standsWithIns(Checks.row(1), Checks.row(1, 2)), 304);
        c.due("its second", standsWithIns(Checks.row(1), Checks.row(2, 1)), 304);
        c.due("the lower's second", standsWithIns(Checks.row(1, 2), Checks.row(2)), 304);
        c.due("second and second", standsWithIns(Checks.row(1, 2), Checks.row(3, 2)), 304);
        c.due("none", standsWithIns(Checks.row(1, 2), Checks.row(3, 4)), 0);
        c.due("an IN that is another's OUT", standsWithIns(Checks.row(1), Checks.row(5)), 0);
        c.due("an IN that is its own OUT", standsWithIns(Checks.row(5), Checks.row(1)), 0);
    }

    private static void inTwice(Checks c) {
        c.by("P6 4 or twice its own");
        MillLine x = Checks.bins(6, 1);
        Checks.add(x, 0, 4, 0, 1, Checks.row(3, 3), Checks.row(5));
        c.due("of STAGE 0", x.stands(), 4);
        c.due("of STAGE 3", standsWithIns(Checks.row(1), Checks.row(3, 3)), 304);
        c.due("it does not stand", x.count(2), 0);
    }

    private static void firstLackOfAll(Checks c) {
        c.by("P6 the first by STAGES from 0 on");
        MillLine x = Checks.bins(6, 1);
        Checks.add(x, 0, 4, 0, 1, Checks.row(3, 3), Checks.row(5));
        x.stage(1, 0, 0, 1);
        c.due("4 of a lower one before 1 of a higher one", x.stands(), 4);
        MillLine y = Checks.bins(6, 1);
        y.stage(1, 2, 0, 1);
        c.due("INS before OUTS", y.stands(), 101);
        MillLine z = Checks.bins(6, 1);
        Checks.add(z, 0, 0, 0, 1, Checks.row(0), Checks.row(1));
        Checks.add(z, 1, 2, 0, 1, Checks.row(0), Checks.row(1), 1);
        c.due("OUTS before SHARES and the IN of a lower one", z.stands(), 102);
        z.to(1, 2, 1);
        c.due("SHARES before the IN of a lower one", z.stands(), 103);
        z.to(1, 3, 998);
        c.due("the IN of a lower one at last", z.stands(), 104);
    }

    private static void lackIsMended(Checks c) {
        c.by("P6 what lacks changes nothing: more can be told");
        MillLine x = Checks.bins(1, 1);
        x.stage(0, 0, 0, 1);
        c.due("INS", x.stands(), 1);
        c.due("a BIN", x.bin(1, 1), true);
        c.due("an IN", x.from(0, 0), 1);
        c.due("OUTS", x.stands(), 2);
        c.due("an OUT", x.to(0, 1, 0), 1);
        c.due("it does not stand yet", x.count(2), 0);
        c.due("no BEAT yet", x.beat(1), -1);
        c.due("stands", x.stands(), 0);
        c.due("it stands", x.count(2), 1);
    }

    /** Twelve STAGES and sixteen BINS, of which four are each a second IN. */
    private static void fullestLine(Checks c) {
        c.by("P6 THE LINE STANDS when each STAGE that was told has its INS and OUTS");
        MillLine x = Checks.bins(16, 20);
        for (int s = 0; s <= 11; s++) {
            int[] ins = s < 4 ? Checks.row(s, 12 + s) : Checks.row(s);
            Checks.add(x, s, s < 4 ? 4 : 0, 0, 1, ins, Checks.row((s + 1) % 12));
        }
        c.due("all of it", x.stands(), 0);
    }
}
