/** Promises 10, 12 and 13: BEATS, their order, pushing back, DIVERT and what STAGES tell of it. */
public final class BeatTest {
    public static void main(String[] args) {
        Checks c = new Checks();
        limits(c);
        chain(c);
        puttingBeforeTaking(c);
        greatestPutsFirst(c);
        greatestTakesFirst(c);
        pushedBack(c);
        pushedBackRoll(c);
        twoPartsOneBin(c);
        divertPushedBack(c);
        numbersEnd(c);
        lastNumbers(c);
        blendHasBoth(c);
        c.end();
    }

    private static void limits(Checks c) {
        MillLine x = Checks.bins(2, 2);
        Checks.add(x, 0, 0, 0, 1, Checks.row(0), Checks.row(1));
        c.due("beat before it stands", x.beat(1), -1);
        x.stands();
        int[] none = {0, -1, 201, Integer.MIN_VALUE, Integer.MAX_VALUE};
        for (int n : none) {
            c.due("beat " + n, x.beat(n), -1);
        }
        for (int i = 1; i <= 24; i++) {
            c.due("beat 200", x.beat(200), 200 * i);
        }
        c.due("beat 199", x.beat(199), 4999);
        c.due("beyond 5000", x.beat(2), -1);
        c.due("the last", x.beat(1), 5000);
        c.due("no more", x.beat(1), -1);
        c.due("count", x.count(0), 5000);
        c.due("waited all of them", x.state(0, 3), 5000);
    }

    /** Each STAGE hands on in the BEAT in which it ENDS; the next takes in the same BEAT. */
    private static void chain(Checks c) {
        MillLine x = Checks.bins(3, 1);
        Checks.add(x, 0, 0, 0, 2, Checks.row(0), Checks.row(1));
        Checks.add(x, 1, 0, 0, 3, Checks.row(1), Checks.row(2));
        x.stands();
        x.feed(0, 10, 0, 0, 0);
        x.beat(1);
        c.due("0 works", x.state(0, 0), 1);
        c.due("0 to go", x.state(0, 1), 2);
        x.beat(2);
        c.due("0 waits", x.state(0, 0), 0);
        c.due("1 took at once", x.state(1, 0), 1);
        c.due("1 to go", x.state(1, 1), 3);
        c.due("1 has", x.state(1, 6), 0);
        c.due("1 has GRAMS", x.state(1, 8), 10);
        c.due("in STAGES", x.total(6), 10);
        c.due("BIN was never full at an end", x.level(1, 1), 0);
        x.beat(3);
        c.due("came", x.in(2, 0, 0), 0);
        c.due("0 waited", x.state(0, 3), 4);
        c.due("1 waited", x.state(1, 3), 3);
        c.due("1 ended", x.state(1, 2), 1);
    }

    /** A STAGE with its own IN as OUT may put only while there is ROOM, and takes after that. */
    private static void puttingBeforeTaking(Checks c) {
        MillLine x = Checks.bins(1, 2);
        Checks.add(x, 0, 0, 0, 1, Checks.row(0), Checks.row(0));
        x.stands();
        x.feed(0, 1, 0, 0, 0);
        x.feed(0, 2, 0, 0, 0);
        x.beat(2);
        c.due("took the next", x.state(0, 6), 1);
        c.due("put the first", x.in(0, 0, 0), 0);
        x.feed(0, 3, 0, 0, 0);
        x.beat(1);
        c.due("pushed back by its own IN", x.state(0, 0), 2);
        c.due("a ring of one", x.ring(0), 0);
        c.due("no second in it", x.ring(1), -1);
    }

    private static void greatestPutsFirst(Checks c) {
        MillLine x = Checks.bins(3, 1);
        Checks.add(x, 4, 0, 0, 1, Checks.row(0), Checks.row(2));
        Checks.add(x, 7, 0, 0, 1, Checks.row(1), Checks.row(2));
        x.stands();
        x.feed(0, 1, 0, 0, 0);
        x.feed(1, 1, 0, 0, 0);
        x.beat(2);
        c.due("7 has put", x.in(2, 0, 0), 1);
        c.due("7 waits", x.state(7, 0), 0);
        c.due("4 is pushed back", x.state(4, 0), 2);
        c.due("4 has", x.state(4, 6), 0);
        c.due("a full BIN of no STAGE is no ring", x.ring(0), -1);
    }

    /** The lower STAGE puts after the higher one tried: what it frees is for the next BEAT. */
    private static void greatestTakesFirst(Checks c) {
        MillLine x = Checks.bins(4, 1);
        Checks.add(x, 1, 0, 0, 1, Checks.row(0), Checks.row(1));
        Checks.add(x, 2, 0, 0, 3, Checks.row(1), Checks.row(2));
        x.stands();
        x.feed(0, 1, 0, 0, 0);
        x.feed(1, 1, 0, 0, 0);
        x.beat(1);
        c.due("both work", x.state(1, 0) + x.state(2, 0), 2);
        x.feed(1, 1, 0, 0, 0);
        x.beat(3);
        c.due("2 put and took", x.state(2, 6), 2);
        c.due("1 is still pushed back", x.state(1, 0), 2);
        c.due("1 was so three BEATS", x.state(1, 4), 3);
        x.beat(1);
        c.due("then it puts", x.state(1, 0), 0);
        c.due("no BEAT more", x.state(1, 4), 3);
    }

    private static void pushedBack(Checks c) {
        MillLine x = Checks.bins(2, 1);
        Checks.add(x, 0, 0, 500, 1, Checks.row(0), Checks.row(1));
        x.stands();
        x.feed(1, 9, 0, 0, 0);
        x.feed(0, 10, 0, 0, 0);
        x.beat(2);
        c.due("pushed back", x.state(0, 0), 2);
        c.due("nothing to go", x.state(0, 1), 0);
        c.due("worked upon when it ENDS", x.total(3), 5);
        c.due("has GRAMS", x.state(0, 8), 5);
        c.due("ended", x.state(0, 2), 1);
        c.due("quiet", x.quiet(), 1);
        x.beat(10);
        c.due("worked upon once", x.total(3), 5);
        c.due("BEATS pushed back", x.state(0, 4), 11);
        c.due("BEATS waited", x.state(0, 3), 0);
    }

    private static void pushedBackRoll(Checks c) {
        MillLine x = Checks.bins(4, 1);
        Checks.add(x, 0, 2, 0, 1, Checks.row(0), Checks.row(1, 2, 3), 500, 300, 200);
        x.stands();
        x.feed(3, 9, 0, 0, 0);
        x.feed(0, 100, 0, 0, 0);
        x.beat(2);
        c.due("all or none", x.level(1, 0) + x.level(2, 0), 0);
        c.due("new LOTS are not yet", x.count(1), 2);
        c.due("has all GRAMS", x.state(0, 8), 100);
        c.due("has the first", x.state(0, 6), 1);
        c.due("no such part", x.part(2, 0), -1);
        x.divert(0, 2, 2);
        c.due("two into one BIN of one", x.quiet(), 1);
        x.divert(0, 1, 3);
        c.due("turned about: still full", x.quiet(), 1);
        x.divert(0, 1, 0);
        c.due("now it could", x.quiet(), 0);
        x.beat(1);
        c.due("first", x.in(1, 0, 1), 50);
        c.due("third", x.in(2, 0, 1), 20);
        c.due("second was taken again", x.state(0, 6), 2);
        c.due("LOTS", x.count(1), 4);
        MillLine y = Checks.bins(4, 1);
        Checks.add(y, 0, 2, 0, 1, Checks.row(0), Checks.row(1, 2), 999, 1);
        y.stands();
        y.feed(2, 9, 0, 0, 0);
        y.feed(0, 100, 0, 0, 0);
        y.beat(2);
        c.due("a part of 0 GRAMS needs no ROOM", y.in(1, 0, 1), 100);
    }

    private static void twoPartsOneBin(Checks c) {
        MillLine x = Checks.bins(2, 3);
        Checks.add(x, 0, 2, 0, 1, Checks.row(0), Checks.row(1, 1), 500, 500);
        x.stands();
        x.feed(1, 1, 0, 0, 0);
        x.feed(1, 1, 0, 0, 0);
        x.feed(0, 10, 0, 0, 0);
        x.beat(2);
        c.due("one place is too few", x.state(0, 0), 2);
        c.due("and could not", x.quiet(), 1);
        MillLine y = Checks.bins(2, 3);
        Checks.add(y, 0, 2, 0, 1, Checks.row(0), Checks.row(1, 1), 500, 500);
        y.stands();
        y.feed(1, 1, 0, 0, 0);
        y.feed(0, 10, 5, 0, 0);
        y.beat(2);
        c.due("two are enough", y.level(1, 0), 3);
        c.due("in order of OUTS: first", y.in(1, 1, 2), 5);
        c.due("in order of OUTS: second", y.in(1, 2, 2), 6);
    }

    private static void divertPushedBack(Checks c) {
        MillLine x = Checks.bins(4, 1);
        Checks.add(x, 0, 3, 4, 1, Checks.row(0), Checks.row(1, 2));
        c.due("divert before it stands", x.divert(0, 0, 2), false);
        x.stands();
        int[][] wrong = {{-1, 0, 1}, {1, 0, 1}, {12, 0, 1}, {0, -1, 1}, {0, 2, 1}, {0, 0, 4}, {0, 0, -1}, {0, 0, 16}};
        for (int[] d : wrong) {
            c.due("divert " + java.util.Arrays.toString(d), x.divert(d[0], d[1], d[2]), false);
        }
        x.feed(2, 1, 0, 0, 0);
        x.feed(0, 1, 5, 0, 0);
        x.beat(3);
        c.due("pushed back", x.state(0, 0), 2);
        c.due("the other OUT", x.divert(0, 0, 3), true);
        c.due("first OUT is told", x.state(0, 9), 3);
        c.due("that does not help", x.quiet(), 1);
        c.due("its OUT", x.divert(0, 1, 1), true);
        c.due("that does", x.quiet(), 0);
        x.beat(1);
        c.due("put there", x.in(1, 0, 0), 1);
        c.due("the same BIN again", x.divert(0, 1, 1), true);
        MillLine y = Checks.bins(2, 1);
        Checks.add(y, 0, 5, 4, 1, Checks.row(0), Checks.row());
        y.stands();
        c.due("PACK has no OUT", y.divert(0, 0, 1), false);
    }

    /** A ROLL that feeds itself till there are 1500 LOTS; then it is pushed back though there is ROOM. */
    private static void numbersEnd(Checks c) {
        MillLine x = Checks.bins(3, 20);
        Checks.add(x, 0, 2, 0, 1, Checks.row(0), Checks.row(0, 1), 999, 1);
        Checks.add(x, 1, 5, 50000, 1, Checks.row(1), Checks.row());
        x.stands();
        x.feed(0, 100000, 0, 0, 0);
        for (int i = 0; i < 10; i++) {
            x.beat(200);
        }
        c.due("1500 LOTS", x.count(1), 1500);
        c.due("no feed", x.feed(2, 1, 0, 0, 0), -1);
        c.due("pushed back for numbers", x.state(0, 0), 2);
        c.due("since all were there", x.state(0, 4), 500);
        c.due("there is ROOM", x.level(0, 0) + x.level(1, 0), 0);
        c.due("it could not put", x.quiet(), 1);
        c.due("that is no ring", x.ring(0), -1);
        c.due("part of the last", x.part(1499, 0), 1000000);
        c.due("no part beyond", x.part(1500, 0), -1);
    }

    private static void blendHasBoth(Checks c) {
        MillLine x = Checks.bins(3, 1);
        Checks.add(x, 0, 4, 0, 2, Checks.row(0, 1), Checks.row(2));
        x.stands();
        x.feed(1, 7, 0, 0, 0);
        x.feed(0, 5, 0, 0, 0);
        x.beat(2);
        c.due("GRAMS of both", x.state(0, 8), 12);
        c.due("the first is that of the first IN", x.state(0, 6), 1);
        c.due("in STAGES", x.total(6), 12);
        x.feed(2, 1, 0, 0, 0);
        x.beat(1);
        c.due("pushed back with one", x.state(0, 8), 12);
        c.due("joined already", x.state(0, 6), 1);
    }

    /** With one number left a ROLL puts one new LOT, with none it still puts a LOT that stays whole. */
    private static void lastNumbers(Checks c) {
        MillLine x = Checks.bins(4, 20);
        Checks.add(x, 0, 2, 0, 1, Checks.row(0), Checks.row(0, 1), 999, 1);
        Checks.add(x, 1, 5, 1, 1, Checks.row(1), Checks.row());
        Checks.add(x, 2, 2, 0, 1, Checks.row(2), Checks.row(3, 3, 3), 500, 1, 499);
        x.stands();
        x.feed(0, 100000, 0, 0, 0);
        for (int i = 0; i < 8; i++) {
            x.beat(187);
        }
        c.due("a new LOT each BEAT but the first", x.count(1), 1496);
        x.feed(2, 100, 0, 0, 0);
        x.feed(2, 1, 0, 0, 0);
        x.beat(1);
        c.due("one number is left", x.count(1), 1499);
        x.beat(1);
        c.due("it is the last", x.in(3, 1, 0), 1499);
        c.due("of what is new", x.in(3, 1, 1), 49);
        c.due("0 has none left", x.state(0, 0), 2);
        c.due("2 works upon the other", x.state(2, 8), 1);
        x.beat(1);
        c.due("which needs none", x.in(3, 2, 1), 1);
        c.due("no feed", x.feed(2, 1, 0, 0, 0), -1);
        c.due("1500 LOTS", x.count(1), 1500);
    }
}
