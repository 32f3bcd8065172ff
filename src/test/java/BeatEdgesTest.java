/** '2. A BEAT' and promises 10, 12 and 13, sentence by sentence. */
public final class BeatEdgesTest {
    public static void main(String[] args) {
        Checks c = new Checks();
        beatNumbers(c);
        beatWhenItDoesNotStand(c);
        beatsInAll(c);
        lastCall(c);
        beatsOfWorking(c);
        mendedTakesAtOnce(c);
        exactRoom(c);
        roomForAll(c);
        twoPartsInOneBin(c);
        threePartsInOneBin(c);
        outBeyondItsRoom(c);
        greatestPutsFirst(c);
        roomIsFreedAfterPutting(c);
        numbersForNewLots(c);
        numbersComeToBeThen(c);
        takesIfEachHasOne(c);
        takesTheFirst(c);
        packWaits(c);
        stoppedDoNothing(c);
        stateNoSuch(c);
        stateToGo(c);
        stateCountsAtTheEnd(c);
        stateOfWhatItHas(c);
        divertNoSuch(c);
        divertFromNowOn(c);
        divertWhatItIsPushedBackWith(c);
        c.end();
    }

    private static void beatNumbers(Checks c) {
        c.by("P10 so many BEATS (1 to 200)");
        c.numbers("beat", 1, 200, n -> Checks.one(0, 0, 1, 1).beat(n));
        c.due("1", Checks.one(0, 0, 1, 1).beat(1), 1);
        c.due("200", Checks.one(0, 0, 1, 1).beat(200), 200);
        MillLine x = Checks.one(0, 0, 1, 1);
        x.beat(201);
        x.beat(0);
        c.due("refused ones are no BEATS", x.count(0), 0);
        c.due("nor did it wait", x.state(0, 3), 0);
    }

    private static void beatWhenItDoesNotStand(Checks c) {
        c.by("P10 NONE: THE LINE does not stand");
        MillLine x = Checks.bins(2, 1);
        c.due("no STAGE", x.beat(1), -1);
        Checks.add(x, 0, 0, 0, 1, Checks.row(0), Checks.row(1));
        c.due("not said yet", x.beat(1), -1);
        c.due("BEATS", x.count(0), 0);
        x.stands();
        c.due("it stands", x.beat(1), 1);
    }

    private static MillLine after(int beats) {
        MillLine x = Checks.one(0, 0, 1, 1);
        for (int left = beats; left > 0; left -= 200) {
            x.beat(Math.min(200, left));
        }
        return x;
    }

    private static void beatsInAll(Checks c) {
        c.by("P10 NONE: there would be more than 5000");
        c.due("200 after 4800", after(4800).beat(200), 5000);
        c.due("200 after 4801", after(4801).beat(200), -1);
        c.due("199 after 4801", after(4801).beat(199), 5000);
        c.due("1 after 4999", after(4999).beat(1), 5000);
        c.due("2 after 4999", after(4999).beat(2), -1);
        c.due("1 after 5000", after(5000).beat(1), -1);
        MillLine x = after(4999);
        x.beat(2);
        c.due("none of them was", x.count(0), 4999);
        c.due("nor waited", x.state(0, 3), 4999);
    }

    private static void lastCall(Checks c) {
        c.by("An object is used for at most 512 calls");
        MillLine x = new MillLine();
        x.bin(0, 1);
        x.stage(0, 0, 0, 1);
        x.from(0, 0);
        x.to(0, 0, 0);
        x.stands();
        x.feed(0, 1, 0, 0, 0);
        for (int call = 7; call <= 511; call++) {
            c.due("call " + call, x.beat(1), call - 6);
        }
        c.due("call 512", x.state(0, 2), 504);
    }

    private static void beatsOfWorking(Checks c) {
        c.by("(1) one that WORKS has one BEAT less to go; at 0 its WORKING ENDS");
        for (int beats = 1; beats <= 20; beats++) {
            MillLine x = Checks.one(0, 0, beats, 1);
            Checks.fill(x, 0, 1);
            x.beat(1);
            c.due("to go of " + beats, x.state(0, 1), beats);
            x.beat(beats);
            c.due("ENDED after " + beats, x.state(0, 2), 1);
            c.due("put in the same BEAT", x.level(3, 0), 1);
            MillLine y = Checks.one(0, 0, beats, 1);
            Checks.fill(y, 0, 1);
            y.beat(beats);
            c.due("one BEAT before", y.state(0, 1), 1);
            c.due("not ENDED", y.state(0, 2), 0);
        }
    }

    private static void mendedTakesAtOnce(Checks c) {
        c.by("(1) one that is MENDED likewise, at 0 it WAITS; (3) takes, from (1)");
        MillLine x = Checks.one(0, 0, 1, 2);
        x.rule(0, 0, 0, 1);
        x.plan(0, 1, 0);
        Checks.fill(x, 0, 2);
        x.beat(2);
        c.due("MENDED", x.state(0, 0), 3);
        c.due("one to go", x.state(0, 1), 1);
        x.beat(1);
        c.due("WORKS", x.state(0, 0), 1);
        c.due("upon the next", x.state(0, 6), 1);
        c.due("it WAITED at no end", x.state(0, 3), 0);
        c.due("it was MENDED at one", x.state(0, 5), 1);
    }

    private static void exactRoom(Checks c) {
        c.by("(2) if there is ROOM (in no BIN more LOTS then than its ROOM)");
        for (int room = 1; room <= 20; room++) {
            MillLine x = Checks.one(0, 0, 1, room);
            Checks.fill(x, 3, room - 1);
            Checks.fill(x, 0, 1);
            x.beat(2);
            c.due("the last place of " + room, x.level(3, 0), room);
            c.due("it WAITS then", x.state(0, 0), 0);
            MillLine y = Checks.one(0, 0, 1, room);
            Checks.fill(y, 3, room);
            Checks.fill(y, 0, 1);
            y.beat(2);
            c.due("no place of " + room, y.level(3, 0), room);
            c.due("else it is PUSHED BACK", y.state(0, 0), 2);
        }
    }

    private static void roomForAll(Checks c) {
        c.by("(2) if there is ROOM for all of them");
        for (int full = 3; full <= 5; full++) {
            MillLine x = Checks.one(2, 0, 1, 1, 500, 300, 200);
            Checks.fill(x, full, 1);
            x.feed(0, 10, 0, 0, 0);
            x.beat(2);
            c.due("PUSHED BACK by BIN " + full, x.state(0, 0), 2);
            c.due("none was put", x.level(3, 0) + x.level(4, 0) + x.level(5, 0), 1);
            c.due("it has all", x.state(0, 8), 10);
        }
        MillLine y = Checks.one(2, 0, 1, 1, 500, 300, 200);
        y.feed(0, 10, 0, 0, 0);
        y.beat(2);
        c.due("all were put", y.level(3, 0) + y.level(4, 0) + y.level(5, 0), 3);
        MillLine z = Checks.one(2, 0, 1, 1, 998, 1, 1);
        Checks.fill(z, 4, 1);
        Checks.fill(z, 5, 1);
        z.feed(0, 10, 0, 0, 0);
        z.beat(2);
        c.due("what is none needs none", z.in(3, 0, 1), 10);
        MillLine w = Checks.one(3, 0, 1, 1);
        Checks.fill(w, 3, 1);
        w.feed(0, 10, 9, 0, 0);
        w.beat(2);
        c.due("a SIFT needs none in the other OUT", w.in(4, 0, 1), 10);
    }

    private static MillLine rolledInto(int lots, int room, int... shares) {
        MillLine x = Checks.bins(2, room);
        Checks.add(x, 0, 2, 0, 1, Checks.row(0), java.util.Arrays.copyOf(Checks.row(1, 1, 1), shares.length), shares);
        x.stands();
        Checks.fill(x, 1, lots);
        x.feed(0, 100, 0, 0, 0);
        x.beat(2);
        return x;
    }

    private static void twoPartsInOneBin(Checks c) {
        c.by("(2) in no BIN more LOTS then than its ROOM: two into one BIN");
        c.due("two places", rolledInto(1, 3, 600, 400).level(1, 0), 3);
        c.due("one place", rolledInto(2, 3, 600, 400).level(1, 0), 2);
        c.due("PUSHED BACK", rolledInto(2, 3, 600, 400).state(0, 0), 2);
        c.due("two places of 20", rolledInto(18, 20, 600, 400).level(1, 0), 20);
        c.due("one place of 20", rolledInto(19, 20, 600, 400).level(1, 0), 19);
        c.due("ROOM for one at all", rolledInto(0, 1, 600, 400).state(0, 0), 2);
        MillLine x = rolledInto(1, 3, 600, 400);
        c.due("in order of its OUTS: the first", x.in(1, 1, 1), 60);
        c.due("in order of its OUTS: the second", x.in(1, 2, 1), 40);
    }

    private static void threePartsInOneBin(Checks c) {
        c.by("(2) in no BIN more LOTS then than its ROOM: three into one BIN");
        c.due("three places", rolledInto(17, 20, 500, 300, 200).level(1, 0), 20);
        c.due("two places", rolledInto(18, 20, 500, 300, 200).level(1, 0), 18);
        c.due("two places for two and one of 0 GRAMS", rolledInto(18, 20, 500, 499, 1).level(1, 0), 20);
        c.due("one place for one and two of 0 GRAMS", rolledInto(19, 20, 998, 1, 1).level(1, 0), 20);
        MillLine x = rolledInto(0, 3, 500, 300, 200);
        for (int i = 0; i < 3; i++) {
            c.due("in order of its OUTS " + i, x.in(1, i, 0), i);
            c.due("GRADE " + i, x.in(1, i, 2), i);
        }
    }

    /** STOP gives BIN 1 a LOT beyond its ROOM; STAGE 0 may put only when there is a place again. */
    private static void outBeyondItsRoom(Checks c) {
        c.by("(2) a BIN that has more LOTS than its ROOM is full");
        MillLine x = Checks.bins(3, 1);
        Checks.add(x, 0, 0, 0, 1, Checks.row(0), Checks.row(1));
        Checks.add(x, 1, 0, 0, 3, Checks.row(1), Checks.row(2));
        x.stands();
        Checks.fill(x, 1, 1);
        Checks.fill(x, 0, 1);
        x.beat(1);
        Checks.fill(x, 1, 1);
        x.beat(1);
        c.due("PUSHED BACK", x.state(0, 0), 2);
        x.command(0);
        c.due("beyond", x.level(1, 0), 2);
        x.command(1);
        x.beat(1);
        c.due("PUSHED BACK yet", x.state(0, 0), 2);
        c.due("one was taken", x.level(1, 0), 1);
        x.beat(3);
        c.due("full when it tried", x.state(0, 0), 2);
        c.due("taken after that", x.level(1, 0), 0);
        x.beat(1);
        c.due("put at last", x.state(0, 0), 0);
    }

    private static void greatestPutsFirst(Checks c) {
        c.by("(2) STAGES from the greatest number down");
        MillLine x = Checks.bins(16, 2);
        for (int s = 0; s <= 11; s++) {
            Checks.add(x, s, 0, 0, 1, Checks.row(s), Checks.row(15));
        }
        x.stands();
        for (int s = 0; s <= 11; s++) {
            Checks.fill(x, s, 1);
        }
        x.beat(2);
        c.due("11 first", x.in(15, 0, 0), 11);
        c.due("then 10", x.in(15, 1, 0), 10);
        for (int s = 0; s <= 11; s++) {
            c.due("STAGE " + s, x.state(s, 0), s >= 10 ? 0 : 2);
        }
    }

    private static void roomIsFreedAfterPutting(Checks c) {
        c.by("(2) before (3): what is taken makes ROOM for the next BEAT");
        MillLine x = Checks.bins(3, 1);
        Checks.add(x, 0, 0, 0, 1, Checks.row(0), Checks.row(1));
        Checks.add(x, 1, 5, 1, 1, Checks.row(1), Checks.row());
        x.stands();
        Checks.fill(x, 0, 1);
        x.beat(1);
        Checks.fill(x, 1, 1);
        x.beat(1);
        c.due("PUSHED BACK", x.state(0, 0), 2);
        c.due("though its OUT is empty at the end", x.level(1, 0), 0);
        x.beat(1);
        c.due("then it puts", x.state(0, 0), 0);
        c.due("and the next takes at once", x.state(1, 6), 0);
    }

    private static MillLine rollWhenThereAre(int lots, int grams, int... shares) {
        int[] outs = java.util.Arrays.copyOf(Checks.row(1, 2, 3), shares.length);
        MillLine x = Checks.withLots(lots - 1, y -> Checks.add(y, 0, 2, 0, 1, Checks.row(0), outs, shares));
        x.feed(0, grams, 0, 0, 0);
        x.beat(2);
        return x;
    }

    private static void dueRoll(Checks c, String text, MillLine x, int state, int lots) {
        c.due(text + ": state", x.state(0, 0), state);
        c.due(text + ": LOTS", x.count(1), lots);
        c.due(text + ": in its first OUT", x.level(1, 0), state == 0 ? 1 : 0);
    }

    private static void numbersForNewLots(Checks c) {
        c.by("(2) and numbers for new LOTS");
        dueRoll(c, "two of two", rollWhenThereAre(1498, 100, 500, 300, 200), 0, 1500);
        dueRoll(c, "two of one", rollWhenThereAre(1499, 100, 500, 300, 200), 2, 1499);
        dueRoll(c, "two of none", rollWhenThereAre(1500, 100, 500, 300, 200), 2, 1500);
        dueRoll(c, "one of one", rollWhenThereAre(1499, 100, 500, 500), 0, 1500);
        dueRoll(c, "one of none", rollWhenThereAre(1500, 100, 500, 500), 2, 1500);
        dueRoll(c, "the third alone, of one", rollWhenThereAre(1499, 100, 500, 1, 499), 0, 1500);
        dueRoll(c, "one of 1 GRAM, of none", rollWhenThereAre(1500, 2, 500, 500), 2, 1500);
        dueRoll(c, "none of none", rollWhenThereAre(1500, 1, 500, 500), 0, 1500);
        MillLine x = rollWhenThereAre(1499, 100, 500, 300, 200);
        x.beat(200);
        c.due("it stays so", x.state(0, 4), 201);
        c.due("with all", x.state(0, 8), 100);
        c.due("it could not put", x.quiet(), 1);
    }

    private static void numbersComeToBeThen(Checks c) {
        c.by("(2) new LOTS (which come to be then)");
        MillLine x = Checks.bins(6, 1);
        Checks.add(x, 3, 2, 0, 1, Checks.row(0), Checks.row(1, 2), 600, 400);
        Checks.add(x, 8, 2, 0, 1, Checks.row(3), Checks.row(4, 5), 600, 400);
        x.stands();
        x.feed(0, 10, 0, 0, 0);
        x.feed(3, 20, 0, 0, 1);
        x.beat(2);
        c.due("that of 8 first", x.in(5, 0, 0), 2);
        c.due("that of 3 then", x.in(2, 0, 0), 3);
        MillLine y = Checks.one(2, 0, 1, 1, 600, 400);
        Checks.fill(y, 4, 1);
        y.feed(0, 10, 0, 0, 0);
        y.beat(2);
        c.due("PUSHED BACK: no LOT yet", y.count(1), 2);
        c.due("no PART yet", y.part(2, 0), -1);
        c.due("the number is another's", y.feed(5, 1, 0, 0, 1), 2);
        y.divert(0, 1, 0);
        y.beat(1);
        c.due("the next number is its own", y.state(0, 6), 3);
        c.due("its PART", y.part(3, 0), 1000000);
    }

    private static void takesIfEachHasOne(Checks c) {
        c.by("(3) takes the first LOT of each of its INS, if each has one");
        for (int b = 0; b < 2; b++) {
            MillLine x = Checks.one(4, 0, 1, 1);
            Checks.fill(x, b, 1);
            x.beat(5);
            c.due("one IN alone: WAITS", x.state(0, 0), 0);
            c.due("it took none", x.level(b, 0), 1);
            c.due("it WAITED", x.state(0, 3), 5);
            Checks.fill(x, 1 - b, 1);
            x.beat(1);
            c.due("both: WORKS", x.state(0, 0), 1);
            c.due("it took both", x.level(0, 0) + x.level(1, 0), 0);
        }
        MillLine y = Checks.one(4, 0, 1, 1);
        y.beat(1);
        c.due("no IN has one", y.state(0, 0), 0);
    }

    private static void takesTheFirst(Checks c) {
        c.by("(3) takes the first LOT");
        MillLine x = Checks.one(0, 0, 1, 20);
        Checks.fill(x, 0, 20);
        for (int lot = 0; lot < 20; lot++) {
            x.beat(1);
            c.due("it has", x.state(0, 6), lot);
            c.due("the next is first", x.in(0, 0, 0), lot < 19 ? lot + 1 : -1);
        }
    }

    private static void packWaits(Checks c) {
        c.by("A PACK has nothing to put: it WAITS");
        MillLine x = Checks.one(5, 100, 1, 2);
        Checks.fill(x, 0, 2);
        x.beat(2);
        c.due("it took the next at once", x.state(0, 6), 1);
        c.due("it WAITED at no end", x.state(0, 3), 0);
        x.beat(1);
        c.due("WAITS", x.state(0, 0), 0);
        c.due("ENDED", x.state(0, 2), 2);
        c.due("never PUSHED BACK", x.state(0, 4), 0);
    }

    private static void stoppedDoNothing(Checks c) {
        c.by("STAGES that are STOPPED do nothing");
        MillLine x = Checks.bins(6, 1);
        Checks.add(x, 0, 0, 0, 1, Checks.row(0), Checks.row(1));
        Checks.add(x, 1, 0, 0, 1, Checks.row(2), Checks.row(3));
        x.stands();
        Checks.fill(x, 1, 1);
        Checks.fill(x, 0, 1);
        x.beat(2);
        x.command(0);
        x.divert(0, 0, 4);
        Checks.fill(x, 2, 1);
        x.beat(200);
        c.due("with ROOM it puts nothing", x.level(4, 0), 0);
        c.due("with a LOT it takes nothing", x.level(2, 0), 1);
        for (int s = 0; s < 2; s++) {
            c.due("STOPPED " + s, x.state(s, 0), 4);
            c.due("MENDED " + s, x.state(s, 5), 0);
        }
        c.due("PUSHED BACK at one end", x.state(0, 4), 1);
        c.due("WAITED at two ends", x.state(1, 3), 2);
        c.due("BEATS", x.count(0), 202);
    }

    private static void stateNoSuch(Checks c) {
        c.by("P13 NONE for others");
        MillLine x = Checks.bins(1, 1);
        for (int s = 0; s <= 11; s++) {
            Checks.add(x, s, 0, 0, 1, Checks.row(), Checks.row(0));
        }
        c.numbers("STAGE", 0, 11, s -> x.state(s, 0));
        c.numbers("what", 0, 9, what -> x.state(0, what));
        MillLine y = Checks.one(0, 0, 1, 1);
        for (int what = -1; what <= 10; what++) {
            c.due("a STAGE that was not told " + what, y.state(1, what), -1);
        }
    }

    private static void stateToGo(Checks c) {
        c.by("P13 1 BEATS to go (of 1, 3; else 0)");
        MillLine x = Checks.one(0, 0, 20, 1);
        c.due("WAITS", x.state(0, 1), 0);
        Checks.fill(x, 0, 1);
        x.beat(1);
        c.due("WORKS", x.state(0, 1), 20);
        x.command(0);
        c.due("STOPPED", x.state(0, 1), 0);
        x.command(1);
        c.due("WAITS after GO", x.state(0, 1), 0);
        MillLine w = Checks.one(0, 0, 20, 1);
        Checks.fill(w, 0, 1);
        w.beat(21);
        c.due("WAITS, it has put", w.state(0, 0), 0);
        c.due("it has put", w.state(0, 1), 0);
        Checks.fill(x, 3, 1);
        x.beat(21);
        c.due("is PUSHED BACK", x.state(0, 0), 2);
        c.due("PUSHED BACK", x.state(0, 1), 0);
        MillLine y = Checks.one(0, 0, 1, 1);
        y.rule(0, 0, 0, 30);
        y.plan(0, 1, 0);
        Checks.fill(y, 0, 1);
        y.beat(2);
        c.due("MENDED", y.state(0, 1), 30);
        y.beat(29);
        c.due("MENDED, the last", y.state(0, 1), 1);
        y.beat(1);
        c.due("not MENDED any more", y.state(0, 1), 0);
    }

    private static void stateCountsAtTheEnd(Checks c) {
        c.by("P13 3 BEATS that it WAITED at their end, 4 was PUSHED BACK, 5 MENDED");
        MillLine x = Checks.one(0, 0, 2, 1);
        x.rule(0, 0, 0, 3);
        x.plan(0, 2, 0);
        x.beat(4);
        Checks.fill(x, 3, 1);
        Checks.fill(x, 0, 1);
        x.beat(1);
        Checks.fill(x, 0, 1);
        x.beat(6);
        // WAITED 4; WORKS at two ends, then PUSHED BACK at five.
        c.due("WAITED", x.state(0, 3), 4);
        c.due("PUSHED BACK", x.state(0, 4), 5);
        x.divert(0, 0, 4);
        x.beat(1);
        c.due("it put and WORKS: PUSHED BACK no more", x.state(0, 4), 5);
        x.beat(10);
        c.due("MENDED", x.state(0, 5), 3);
        c.due("PUSHED BACK then", x.state(0, 4), 5);
        // WORKS at one more end, MENDED at three, WAITED at six.
        c.due("WAITED then", x.state(0, 3), 10);
        c.due("BEATS", x.count(0), 22);
    }

    private static void stateOfWhatItHas(Checks c) {
        c.by("P13 6 the first LOT that it has (NONE), 8 GRAMS that it has, 9 BIN of its first OUT (NONE)");
        MillLine x = Checks.one(0, 0, 1, 1);
        c.due("no LOT", x.state(0, 6), -1);
        c.due("no GRAMS", x.state(0, 8), 0);
        c.due("first OUT", x.state(0, 9), 3);
        x.feed(0, 100000, 0, 0, 0);
        x.beat(1);
        c.due("LOT 0", x.state(0, 6), 0);
        c.due("its GRAMS", x.state(0, 8), 100000);
        x.command(0);
        c.due("given back", x.state(0, 6), -1);
        c.due("no GRAMS then", x.state(0, 8), 0);
        haveOfBlend(c);
        MillLine y = Checks.one(5, 100, 1, 1);
        c.due("a PACK has no OUT", y.state(0, 9), -1);
        MillLine z = new MillLine();
        z.stage(0, 0, 0, 1);
        c.due("no OUT yet", z.state(0, 9), -1);
    }

    private static void haveOfBlend(Checks c) {
        MillLine x = Checks.one(4, 0, 1, 1);
        x.feed(1, 30, 0, 0, 0);
        x.feed(0, 4, 0, 0, 0);
        Checks.fill(x, 3, 1);
        x.beat(1);
        c.due("a BLEND WORKS: the first", x.state(0, 6), 1);
        c.due("a BLEND WORKS: GRAMS of both", x.state(0, 8), 34);
        x.beat(1);
        c.due("a BLEND is PUSHED BACK: the first", x.state(0, 6), 1);
        c.due("a BLEND is PUSHED BACK: GRAMS of both", x.state(0, 8), 34);
        c.due("in STAGES", x.total(6), 34);
    }

    private static void divertNoSuch(Checks c) {
        c.by("P12 false: no such ones");
        int[] outs = {1, 1, 2, 2, 1};
        for (int kind = 0; kind <= 4; kind++) {
            int k = kind;
            c.range("OUT of KIND " + k, 0, outs[k] - 1, i -> Checks.one(k, 1, 1, 1, 500, 500).divert(0, i, 5));
        }
        c.range("OUT of a ROLL of three", 0, 2, i -> Checks.one(2, 0, 1, 1, 500, 300, 200).divert(0, i, 5));
        int[] any = {-1, 0, 1, Integer.MIN_VALUE, Integer.MAX_VALUE};
        for (int i : any) {
            c.due("OUT of a PACK " + i, Checks.one(5, 1, 1, 1).divert(0, i, 5), false);
        }
        MillLine x = Checks.bins(16, 1);
        for (int s = 0; s <= 11; s++) {
            Checks.add(x, s, 0, 0, 1, Checks.row(s), Checks.row(15));
        }
        x.stands();
        c.range("STAGE", 0, 11, s -> x.divert(s, 0, 1));
        c.range("BIN", 0, 15, b -> x.divert(0, 0, b));
        MillLine y = Checks.one(0, 0, 1, 1);
        c.due("a STAGE that was not told", y.divert(1, 0, 1), false);
        c.due("a BIN that was not told", y.divert(0, 0, 6), false);
        c.due("its OUT stays", y.state(0, 9), 3);
        c.by("P12 false: THE LINE does not stand");
        MillLine z = Checks.bins(3, 1);
        Checks.add(z, 0, 0, 0, 1, Checks.row(0), Checks.row(1));
        c.due("divert", z.divert(0, 0, 2), false);
        c.due("its OUT stays", z.state(0, 9), 1);
    }

    private static void divertFromNowOn(Checks c) {
        c.by("DIVERT: an OUT of a STAGE is another BIN from now on");
        MillLine x = Checks.one(0, 0, 1, 1);
        Checks.fill(x, 0, 1);
        x.beat(2);
        c.due("divert", x.divert(0, 0, 4), true);
        c.due("what was put stays", x.level(3, 0), 1);
        c.due("first OUT", x.state(0, 9), 4);
        Checks.fill(x, 0, 1);
        x.beat(1);
        c.due("while it WORKS", x.divert(0, 0, 5), true);
        x.beat(1);
        c.due("put there", x.in(5, 0, 0), 1);
        c.due("not there", x.level(4, 0), 0);
        c.due("to its own IN", x.divert(0, 0, 0), true);
        c.due("to the BIN that it is", x.divert(0, 0, 0), true);
        Checks.fill(x, 0, 1);
        x.beat(20);
        c.due("round and round", x.state(0, 2), 21);
    }

    private static void divertWhatItIsPushedBackWith(Checks c) {
        c.by("DIVERT: what it is PUSHED BACK with, too");
        for (int out = 0; out < 3; out++) {
            MillLine x = Checks.one(2, 0, 1, 1, 500, 300, 200);
            Checks.fill(x, 3 + out, 1);
            x.feed(0, 10, 0, 0, 0);
            x.beat(2);
            c.due("PUSHED BACK by OUT " + out, x.state(0, 0), 2);
            c.due("nothing is put by the call", x.divert(0, out, 1), true);
            c.due("BIN 1", x.level(1, 0), 0);
            x.beat(1);
            c.due("put", x.state(0, 0), 0);
            c.due("GRAMS of OUT " + out, x.in(1, 0, 1), Checks.row(5, 3, 2)[out]);
        }
        MillLine y = Checks.one(0, 0, 1, 1);
        Checks.fill(y, 3, 1);
        Checks.fill(y, 0, 1);
        y.beat(2);
        y.command(0);
        y.divert(0, 0, 5);
        y.command(1);
        y.beat(1);
        c.due("also when it is STOPPED", y.level(5, 0), 1);
        MillLine z = Checks.one(2, 0, 1, 1, 500, 500);
        Checks.fill(z, 4, 1);
        z.feed(0, 10, 0, 0, 0);
        z.beat(2);
        z.divert(0, 1, 3);
        z.beat(1);
        c.due("both to one BIN of ROOM 1: PUSHED BACK yet", z.state(0, 0), 2);
    }
}
