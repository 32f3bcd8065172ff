/** Promises 7, 14 to 17 and 19, sentence by sentence: what can be fed, and what can be asked of LOTS and BINS. */
public final class GrainEdgesTest {
    public static void main(String[] args) {
        Checks c = new Checks();
        feedWhenItDoesNotStand(c);
        feedNoSuchBin(c);
        feedNumbers(c);
        feedAllFromOneOrigin(c);
        feedBehind(c);
        feedFull(c);
        feedBeyondRoom(c);
        feedInDrain(c);
        feedWhenStopped(c);
        feedLastNumber(c);
        feedCountsThoseThatAreGone(c);
        inNoSuch(c);
        inEmptyAndFull(c);
        inBeyondRoom(c);
        levelNoSuch(c);
        levelEmptyAndFull(c);
        levelAtTheEndOfABeat(c);
        partNoSuch(c);
        partAsItWas(c);
        sacksNoSuch(c);
        totalNoSuch(c);
        totalOfEach(c);
        c.end();
    }

    private static MillLine plain() {
        return Checks.one(0, 0, 1, 20);
    }

    private static void feedWhenItDoesNotStand(Checks c) {
        c.by("P7 NONE: THE LINE does not stand");
        MillLine x = Checks.bins(2, 1);
        c.due("BINS alone", x.feed(0, 1, 0, 0, 0), -1);
        Checks.add(x, 0, 0, 0, 1, Checks.row(0), Checks.row());
        x.stands();
        c.due("OUTS lack", x.feed(0, 1, 0, 0, 0), -1);
        x.to(0, 1, 0);
        c.due("not said yet", x.feed(0, 1, 0, 0, 0), -1);
        c.due("nothing was fed", x.total(0), 0);
        x.stands();
        c.due("it stands", x.feed(0, 1, 0, 0, 0), 0);
    }

    private static void feedNoSuchBin(Checks c) {
        c.by("P7 NONE: no such BIN");
        MillLine x = Checks.bins(16, 1);
        Checks.add(x, 0, 5, 1, 1, Checks.row(0), Checks.row());
        x.stands();
        c.numbers("feed BIN", 0, 15, b -> x.feed(b, 1, 0, 0, 0));
        c.due("a BIN that was not told", plain().feed(6, 1, 0, 0, 0), -1);
    }

    private static void feedNumbers(Checks c) {
        c.by("P7 GRAMS 1 to 100,000");
        c.numbers("GRAMS", 1, 100000, grams -> plain().feed(0, grams, 0, 0, 0));
        c.by("P7 a GRADE 0 to 9");
        c.numbers("GRADE", 0, 9, grade -> plain().feed(0, 1, grade, 0, 0));
        c.by("P7 DAMP 0 to 999");
        c.numbers("DAMP", 0, 999, damp -> plain().feed(0, 1, 0, damp, 0));
        c.by("P7 ORIGIN 0 to 3");
        c.numbers("ORIGIN", 0, 3, origin -> plain().feed(0, 1, 0, 0, origin));
        c.by("P7 its number, from 0 on");
        MillLine x = plain();
        for (int lot = 0; lot < 5; lot++) {
            c.due("feed", x.feed(lot, 1, 0, 0, 0), lot);
            c.due("refused", x.feed(lot, 0, 0, 0, 0), -1);
        }
        c.due("those that were refused have none", x.count(1), 5);
    }

    private static void feedAllFromOneOrigin(Checks c) {
        c.by("P7 all of it is from that; 1,000,000 together");
        MillLine x = plain();
        for (int origin = 0; origin <= 3; origin++) {
            x.feed(0, 1, 0, 0, origin);
            for (int other = 0; other <= 3; other++) {
                c.due("PART " + other, x.part(origin, other), origin == other ? 1000000 : 0);
            }
        }
    }

    private static void feedBehind(Checks c) {
        c.by("P7 behind the others of a BIN");
        MillLine x = plain();
        x.feed(5, 10, 1, 2, 0);
        x.feed(5, 20, 3, 4, 0);
        x.feed(5, 30, 5, 6, 0);
        for (int i = 0; i < 3; i++) {
            c.due("number", x.in(5, i, 0), i);
            c.due("GRAMS", x.in(5, i, 1), 10 * i + 10);
            c.due("GRADE", x.in(5, i, 2), 2 * i + 1);
            c.due("DAMP", x.in(5, i, 3), 2 * i + 2);
        }
    }

    private static void feedFull(Checks c) {
        c.by("P7 NONE: it is full");
        for (int room = 1; room <= 20; room++) {
            MillLine x = Checks.one(0, 0, 1, room);
            Checks.fill(x, 5, room - 1);
            c.due("the last of ROOM " + room, x.feed(5, 1, 0, 0, 0), room - 1);
            c.due("one more", x.feed(5, 1, 0, 0, 0), -1);
            c.due("LOTS", x.level(5, 0), room);
            c.due("another BIN is not full", x.feed(4, 1, 0, 0, 0), room);
        }
    }

    private static void feedBeyondRoom(Checks c) {
        c.by("P7 NONE: it is full, also beyond its ROOM");
        MillLine x = Checks.one(0, 0, 9, 2);
        Checks.fill(x, 0, 2);
        x.beat(1);
        c.due("one was taken", x.feed(0, 1, 0, 0, 0), 2);
        x.command(0);
        c.due("three in ROOM for two", x.level(0, 0), 3);
        c.due("beyond", x.feed(0, 1, 0, 0, 0), -1);
        x.command(1);
        x.beat(1);
        c.due("full again", x.feed(0, 1, 0, 0, 0), -1);
        x.beat(9);
        c.due("one less", x.feed(0, 1, 0, 0, 0), 3);
    }

    private static void feedInDrain(Checks c) {
        c.by("P7 NONE: DRAIN: nothing can be fed any more, till GO");
        MillLine x = plain();
        x.feed(0, 1, 0, 0, 0);
        x.command(2);
        for (int b = 0; b <= 5; b++) {
            c.due("feed BIN " + b, x.feed(b, 1, 0, 0, 0), -1);
        }
        c.due("DRAIN is on", x.count(3), 1);
        x.beat(2);
        c.due("what is there goes on", x.level(3, 0), 1);
        x.command(0);
        c.due("STOP does not end it", x.feed(0, 1, 0, 0, 0), -1);
        x.command(2);
        c.due("again", x.count(3), 1);
        x.command(1);
        c.due("DRAIN is off", x.count(3), 0);
        c.due("GO ends it", x.feed(0, 1, 0, 0, 0), 1);
    }

    private static void feedWhenStopped(Checks c) {
        c.by("P7 STOP is none of the cases that refuse");
        MillLine x = plain();
        x.command(0);
        c.due("feed", x.feed(0, 1, 0, 0, 0), 0);
        c.due("DRAIN is off", x.count(3), 0);
    }

    private static void feedLastNumber(Checks c) {
        c.by("P7 NONE: 1500 LOTS were there");
        MillLine x = Checks.withLots(1499, y -> { });
        c.due("LOTS", x.count(1), 1499);
        c.due("no such LOT yet", x.part(1499, 2), -1);
        c.due("the last number", x.feed(0, 1, 0, 0, 2), 1499);
        c.due("its PART", x.part(1499, 2), 1000000);
        c.due("no more", x.feed(0, 1, 0, 0, 2), -1);
        c.due("nor in another BIN", x.feed(1, 1, 0, 0, 2), -1);
        c.due("LOTS in all", x.count(1), 1500);
        c.due("LOTS in the BIN", x.level(0, 0), 1);
        c.due("beyond", x.part(1500, 2), -1);
    }

    private static void feedCountsThoseThatAreGone(Checks c) {
        c.by("1500 at most, also those that are gone");
        MillLine x = Checks.withLots(1500, y -> { });
        x.beat(30);
        c.due("most are gone", x.level(13, 0) + x.level(14, 0) + x.level(15, 0), 20);
        c.due("feed", x.feed(0, 1, 0, 0, 0), -1);
        c.due("LOTS", x.count(1), 1500);
        c.due("PART of one that is gone", x.part(30, 0), 1000000);
    }

    private static void inNoSuch(Checks c) {
        c.by("P14 NONE for others");
        MillLine x = Checks.bins(16, 20);
        Checks.add(x, 0, 5, 1, 1, Checks.row(0), Checks.row());
        x.stands();
        for (int b = 0; b <= 15; b++) {
            x.feed(b, 1, 0, 0, 0);
        }
        c.numbers("BIN", 0, 15, b -> x.in(b, 0, 0));
        c.numbers("what", 0, 3, what -> x.in(0, 0, what));
        c.due("a BIN that was not told", plain().in(6, 0, 0), -1);
    }

    private static void inEmptyAndFull(Checks c) {
        c.by("P14 the i-th LOT in BIN b, i 0 to 19");
        MillLine x = plain();
        c.due("an empty BIN", x.in(5, 0, 0), -1);
        Checks.fill(x, 5, 1);
        c.numbers("one LOT", 0, 0, i -> x.in(5, i, 1));
        Checks.fill(x, 5, 19);
        c.numbers("a full BIN", 0, 19, i -> x.in(5, i, 0));
        c.due("the first", x.in(5, 0, 0), 0);
        c.due("the last", x.in(5, 19, 0), 19);
        for (int what = 0; what <= 3; what++) {
            c.due("behind the last " + what, x.in(5, 20, what), -1);
        }
    }

    private static void inBeyondRoom(Checks c) {
        c.by("P14 and beyond its ROOM");
        MillLine x = Checks.one(0, 0, 9, 20);
        Checks.fill(x, 0, 20);
        x.beat(1);
        x.feed(0, 77, 8, 66, 0);
        x.command(0);
        c.numbers("LOT", 0, 20, i -> x.in(0, i, 0));
        c.due("the first", x.in(0, 0, 0), 0);
        c.due("GRAMS of the last", x.in(0, 20, 1), 77);
        c.due("GRADE of the last", x.in(0, 20, 2), 8);
        c.due("DAMP of the last", x.in(0, 20, 3), 66);
        MillLine y = Checks.one(0, 0, 9, 1);
        Checks.fill(y, 0, 1);
        y.beat(1);
        Checks.fill(y, 0, 1);
        y.command(0);
        c.numbers("LOT of ROOM 1", 0, 1, i -> y.in(0, i, 0));
    }

    private static void levelNoSuch(Checks c) {
        c.by("P15 NONE for others");
        MillLine x = Checks.bins(16, 20);
        c.numbers("BIN", 0, 15, b -> x.level(b, 0));
        c.numbers("what", 0, 3, what -> x.level(0, what));
        c.due("a BIN that was not told", plain().level(6, 0), -1);
    }

    private static void levelEmptyAndFull(Checks c) {
        c.by("P15 0 LOTS, 2 ROOM, 3 GRAMS");
        MillLine x = Checks.one(0, 0, 9, 20);
        c.due("LOTS of an empty BIN", x.level(5, 0), 0);
        c.due("GRAMS of an empty BIN", x.level(5, 3), 0);
        c.due("ROOM of an empty BIN", x.level(5, 2), 20);
        for (int i = 0; i < 20; i++) {
            x.feed(5, 100000, 0, 0, 0);
        }
        c.due("LOTS of a full BIN", x.level(5, 0), 20);
        c.due("GRAMS of a full BIN", x.level(5, 3), 2000000);
        Checks.fill(x, 0, 20);
        x.beat(1);
        x.feed(0, 5, 0, 0, 0);
        x.command(0);
        c.due("LOTS beyond ROOM", x.level(0, 0), 21);
        c.due("GRAMS beyond ROOM", x.level(0, 3), 25);
        c.due("its ROOM stays", x.level(0, 2), 20);
    }

    private static void levelAtTheEndOfABeat(Checks c) {
        c.by("P15 1 the most it had at the end of a BEAT");
        MillLine x = plain();
        Checks.fill(x, 0, 3);
        c.due("no BEAT yet", x.level(0, 1), 0);
        x.beat(1);
        c.due("what was taken in it is not counted", x.level(0, 1), 2);
        c.due("LOTS", x.level(0, 0), 2);
        x.beat(2);
        c.due("LOTS", x.level(0, 0), 0);
        c.due("the most stays", x.level(0, 1), 2);
        Checks.fill(x, 5, 20);
        c.due("fed after it", x.level(5, 1), 0);
        x.beat(1);
        c.due("fed before it", x.level(5, 1), 20);
        MillLine y = Checks.one(0, 0, 9, 20);
        Checks.fill(y, 0, 20);
        y.beat(1);
        Checks.fill(y, 0, 1);
        y.command(0);
        c.due("beyond ROOM, no BEAT since", y.level(0, 1), 19);
        y.beat(1);
        c.due("beyond ROOM, also when STOPPED", y.level(0, 1), 21);
    }

    private static void partNoSuch(Checks c) {
        c.by("P16 NONE: no such LOT, ORIGIN");
        MillLine x = plain();
        c.due("no LOT at all", x.part(0, 0), -1);
        Checks.fill(x, 0, 3);
        c.numbers("LOT", 0, 2, lot -> x.part(lot, 0));
        c.numbers("ORIGIN", 0, 3, origin -> x.part(0, origin));
        MillLine y = Checks.withLots(1500, z -> { });
        c.numbers("LOT of 1500", 0, 1499, lot -> y.part(lot, 0));
    }

    private static void partAsItWas(Checks c) {
        c.by("P16 as it is or was");
        MillLine x = Checks.bins(5, 5);
        Checks.add(x, 0, 4, 0, 1, Checks.row(0, 1), Checks.row(2));
        Checks.add(x, 1, 5, 1, 1, Checks.row(3), Checks.row());
        Checks.add(x, 2, 0, 0, 1, Checks.row(4), Checks.row(2));
        x.plan(2, 1, 0);
        x.stands();
        x.feed(0, 1, 0, 0, 0);
        x.feed(1, 3, 0, 0, 1);
        x.feed(3, 1, 0, 0, 2);
        x.feed(4, 1, 0, 0, 3);
        x.beat(2);
        c.due("as it is, blended", x.part(0, 1), 750000);
        c.due("as it was, blended into another", x.part(1, 1), 1000000);
        c.due("and nothing else", x.part(1, 0), 0);
        c.due("as it was, packed", x.part(2, 2), 1000000);
        c.due("as it was, SET ASIDE", x.part(3, 3), 1000000);
    }

    private static void sacksNoSuch(Checks c) {
        c.by("P17 a GRADE 0 to 9; NONE: no such GRADE");
        c.numbers("of a new object", 0, 9, grade -> new MillLine().sacks(grade));
        MillLine x = Checks.one(5, 2, 1, 20);
        for (int grade = 0; grade <= 9; grade++) {
            x.feed(0, 2 * grade + 2, grade, 0, 0);
        }
        x.beat(11);
        for (int grade = 0; grade <= 9; grade++) {
            c.due("GRADE " + grade, x.sacks(grade), grade + 1);
        }
    }

    private static void totalNoSuch(Checks c) {
        c.by("P19 NONE for others");
        c.numbers("of a new object", 0, 6, what -> new MillLine().total(what));
        c.numbers("what", 0, 6, what -> plain().total(what));
    }

    /** One LOT each on its way to WATER, SACKS, WASTE, aside, a BIN and a STAGE. */
    private static void totalOfEach(Checks c) {
        c.by("P19 GRAMS in all: 0 fed, 1 WATER, 2 PACKED, 3 WASTE, 4 SET ASIDE, 5 in BINS, 6 in STAGES");
        MillLine x = Checks.bins(6, 5);
        Checks.add(x, 0, 1, 500, 1, Checks.row(0), Checks.row(5));
        Checks.add(x, 1, 5, 100, 1, Checks.row(1), Checks.row());
        Checks.add(x, 2, 0, 100, 1, Checks.row(2), Checks.row(5));
        Checks.add(x, 3, 0, 0, 1, Checks.row(3), Checks.row(5));
        Checks.add(x, 4, 0, 0, 20, Checks.row(4), Checks.row(5));
        x.plan(3, 1, 0);
        x.stands();
        x.feed(0, 1000, 0, 250, 0);
        x.feed(1, 250, 0, 0, 0);
        x.feed(2, 70, 0, 0, 0);
        x.feed(3, 13, 0, 0, 0);
        x.feed(4, 5, 0, 0, 0);
        x.beat(2);
        long[] due = {1338, 500, 200, 7, 13, 1563, 55};
        for (int what = 0; what <= 6; what++) {
            c.due("total " + what, x.total(what), due[what]);
        }
        c.by("P19 5 in BINS, 6 in STAGES: the first and the last of them");
        MillLine y = Checks.bins(16, 1);
        Checks.add(y, 0, 0, 0, 9, Checks.row(0), Checks.row(1));
        Checks.add(y, 11, 0, 0, 9, Checks.row(11), Checks.row(1));
        y.stands();
        y.feed(0, 1, 0, 0, 0);
        y.feed(11, 20, 0, 0, 0);
        y.feed(15, 300, 0, 0, 0);
        c.due("in BINS 0, 11 and 15", y.total(5), 321);
        y.beat(1);
        c.due("in BIN 15", y.total(5), 300);
        c.due("in STAGES 0 and 11", y.total(6), 21);
    }
}
