import java.util.ArrayList;
import java.util.List;
import java.util.function.Supplier;
import java.util.function.ToLongFunction;

/**
 * All that can be asked of a line. An object answers for 512 calls alone, so the questions are shared out
 * among objects that are made the same way.
 */
final class Look {
    private static final int QUESTIONS_AN_OBJECT = 200;
    private static final List<String> NAMES = new ArrayList<>();
    private static final List<ToLongFunction<MillLine>> QUESTIONS = new ArrayList<>();

    private Look() { }

    static long[] all(Supplier<MillLine> made) {
        if (QUESTIONS.isEmpty()) {
            think();
        }
        long[] answers = new long[QUESTIONS.size()];
        MillLine x = null;
        for (int i = 0; i < answers.length; i++) {
            x = i % QUESTIONS_AN_OBJECT == 0 ? made.get() : x;
            answers[i] = QUESTIONS.get(i).applyAsLong(x);
        }
        return answers;
    }

    /** The first question that is answered in two ways, or null. */
    static String difference(long[] one, long[] other) {
        for (int i = 0; i < one.length; i++) {
            if (one[i] != other[i]) {
                return NAMES.get(i) + " " + one[i] + " or " + other[i];
            }
        }
        return null;
    }

    private static void ask(String name, ToLongFunction<MillLine> question) {
        NAMES.add(name);
        QUESTIONS.add(question);
    }

    private static void think() {
        for (int n = 0; n <= 15; n++) {
            int i = n;
            for (int w = 0; w <= 9; w++) {
                int what = w;
                ask("state " + i + " " + what, x -> x.state(i, what));
            }
            for (int w = 0; w <= 3; w++) {
                int what = w;
                ask("level " + i + " " + what, x -> x.level(i, what));
                askEachLot(i, what);
            }
            for (int w = 0; w <= 4; w++) {
                int what = w;
                ask("aside " + i + " " + what, x -> x.aside(i, what));
            }
            ask("count " + i, x -> x.count(i));
            ask("total " + i, x -> x.total(i));
            ask("sacks " + i, x -> x.sacks(i));
            ask("ring " + i, x -> x.ring(i));
        }
        ask("quiet", MillLine::quiet);
        askParts();
    }

    private static void askEachLot(int b, int what) {
        for (int n = 0; n <= 21; n++) {
            int i = n;
            ask("in " + b + " " + i + " " + what, x -> x.in(b, i, what));
        }
    }

    private static void askParts() {
        for (int n = 0; n <= 70; n++) {
            int lot = n < 60 ? n : 1430 + n;
            for (int o = 0; o <= 3; o++) {
                int origin = o;
                ask("part " + lot + " " + origin, x -> x.part(lot, origin));
            }
        }
    }
}
