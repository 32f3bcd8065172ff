/** What the tests share: due answers, and small lines that many of them start from. */
final class Checks {
    private int asked;
    private int wrong;

    void due(String call, long got, long want) {
        asked++;
        if (got != want) {
            wrong++;
            System.out.println(call + " answered " + got + ", due is " + want);
        }
    }

    void due(String call, boolean got, boolean want) {
        due(call, got ? 1 : 0, want ? 1 : 0);
    }

    /** Ends the test: exit code 1 if an answer was not the one due. */
    void end() {
        System.out.println(asked + " answers, " + wrong + " not as due");
        if (wrong != 0 || asked == 0) {
            System.exit(1);
        }
    }

    /** BINS 0 to n - 1, all of one ROOM. */
    static MillLine bins(int n, int room) {
        MillLine x = new MillLine();
        for (int b = 0; b < n; b++) {
            x.bin(b, room);
        }
        return x;
    }

    /** A STAGE with its INS and OUTS; SHARES are given for ROLL alone. */
    static void add(MillLine x, int s, int kind, int a, int beats, int[] ins, int[] outs, int... shares) {
        x.stage(s, kind, a, beats);
        for (int b : ins) {
            x.from(s, b);
        }
        for (int i = 0; i < outs.length; i++) {
            x.to(s, outs[i], i < shares.length ? shares[i] : 0);
        }
    }

    static int[] row(int... numbers) {
        return numbers;
    }
}
