import java.util.function.Consumer;
import java.util.function.IntPredicate;
import java.util.function.IntToLongFunction;

/** What the tests share: due answers, and small lines that many of them start from. */
final class Checks {
    private String sentence = "";
    private int sentences;
    private int asked;
    private int wrong;

    /** The document's words by which the answers that follow are due. */
    void by(String words) {
        sentence = words + ": ";
        sentences++;
    }

    void due(String call, long got, long want) {
        asked++;
        if (got != want) {
            wrong++;
            System.out.println(sentence + call + " answered " + got + ", due is " + want);
        }
    }

    void due(String call, boolean got, boolean want) {
        due(call, got ? 1 : 0, want ? 1 : 0);
    }

    /** The last numbers that are taken and the first that are refused, on both sides. */
    void range(String call, int least, int most, IntPredicate isTaken) {
        due(call + " " + least, isTaken.test(least), true);
        due(call + " " + most, isTaken.test(most), true);
        for (int n : beside(least, most)) {
            due(call + " " + n, isTaken.test(n), false);
        }
    }

    /** Likewise of a call that answers a number, which is NONE for what is refused, and NONE for nothing else. */
    void numbers(String call, int least, int most, IntToLongFunction answer) {
        due(call + " " + least + " is not NONE", answer.applyAsLong(least) != MillLine.NONE, true);
        due(call + " " + most + " is not NONE", answer.applyAsLong(most) != MillLine.NONE, true);
        for (int n : beside(least, most)) {
            due(call + " " + n, answer.applyAsLong(n), MillLine.NONE);
        }
    }

    private static int[] beside(int least, int most) {
        return row(least - 1, most + 1, Integer.MIN_VALUE, Integer.MAX_VALUE);
    }

    /** Ends the test: exit code 1 if an answer was not the one due. */
    void end() {
        System.out.println((sentences > 0 ? sentences + " sentences, " : "") + asked + " answers, " + wrong
            + " not as due");
        if (wrong != 0 || asked == 0) {
            System.exit(1);
        }
    }

    /** BINS 0 to n - 1, all of one ROOM. */
    static MillLine bins(int n, int room) {
        MillLine x = new MillLine();
        for (int b = 0; b < n; b++) {
            x.bin(b, room);
        }
        return x;
    }

    /** A STAGE with its INS and OUTS; SHARES are given for ROLL alone. */
    static void add(MillLine x, int s, int kind, int a, int beats, int[] ins, int[] outs, int... shares) {
        x.stage(s, kind, a, beats);
        for (int b : ins) {
            x.from(s, b);
        }
        for (int i = 0; i < outs.length; i++) {
            x.to(s, outs[i], i < shares.length ? shares[i] : 0);
        }
    }

    /**
     * A line that stands, of STAGE 0 alone, with BINS 0 to 5 of one ROOM: its INS are 0 (and of BLEND 1), its
     * OUTS 3 and then 4 and 5; a ROLL has as many OUTS as SHARES are given.
     */
    static MillLine one(int kind, int a, int beats, int room, int... shares) {
        MillLine x = bins(6, room);
        int outs = kind == 2 ? shares.length : kind == 3 ? 2 : kind == 5 ? 0 : 1;
        add(x, 0, kind, a, beats, kind == 4 ? row(0, 1) : row(0), java.util.Arrays.copyOf(row(3, 4, 5), outs), shares);
        x.stands();
        return x;
    }

    /**
     * A line that stands and has had so many LOTS, in few calls: a ROLL that feeds itself makes one each BEAT,
     * till it is turned to a BIN that is full. BINS 0 to 12 and STAGES 0 to 9 are free for what is told besides.
     */
    static MillLine withLots(int lots, Consumer<MillLine> besides) {
        MillLine x = bins(16, 20);
        add(x, 10, 2, 0, 1, row(14), row(14, 15), 999, 1);
        add(x, 11, 5, 50000, 1, row(15), row());
        besides.accept(x);
        x.stands();
        fill(x, 13, 20);
        x.feed(14, 100000, 0, 0, 0);
        // 21 LOTS are there, and each BEAT but the first brings one.
        for (int beats = lots - 20; beats > 0; beats -= 200) {
            x.beat(Math.min(200, beats));
        }
        x.divert(10, 1, 13);
        return x;
    }

    /** A BIN gets so many LOTS of one GRAM. */
    static void fill(MillLine x, int b, int lots) {
        for (int i = 0; i < lots; i++) {
            x.feed(b, 1, 0, 0, 0);
        }
    }

    static int[] row(int... numbers) {
        return numbers;
    }
}
