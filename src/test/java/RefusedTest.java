import java.util.ArrayList;
import java.util.List;
import java.util.function.Consumer;
import java.util.function.Predicate;
import java.util.function.Supplier;
import java.util.function.ToLongFunction;

/**
 * "A call that is refused (NONE, false) changes nothing": two lines are made the same way, one of them is asked
 * for what is refused, and all that can be asked is compared, at once and after both have gone on.
 */
public final class RefusedTest {
    private static final int LOW = Integer.MIN_VALUE;
    private static final int HIGH = Integer.MAX_VALUE;

    private final Checks c;
    private final Supplier<MillLine> made;
    private final List<Consumer<MillLine>> ways = new ArrayList<>();
    private final List<long[]> due = new ArrayList<>();

    /** A line of which all is refused that is asked, and how it may go on. */
    private RefusedTest(Checks c, String line, Supplier<MillLine> made, Consumer<MillLine> goingOn) {
        this.c = c;
        this.made = made;
        c.by("A call that is refused changes nothing, " + line);
        ways.add(x -> { });
        ways.add(goingOn);
        for (Consumer<MillLine> way : ways) {
            due.add(Look.all(after(x -> 0L, way)));
        }
    }

    public static void main(String[] args) {
        Checks c = new Checks();
        ofANewObject(c);
        ofALineThatIsTold(c);
        ofALineThatRuns(c);
        ofALineThatIsStopped(c);
        ofALineThatIsSpent(c);
        whatIsAsked(c);
        c.end();
    }

    private Supplier<MillLine> after(ToLongFunction<MillLine> call, Consumer<MillLine> way) {
        return () -> {
            MillLine x = made.get();
            call.applyAsLong(x);
            way.accept(x);
            return x;
        };
    }

    private void none(String call, ToLongFunction<MillLine> asked) {
        c.due(call, asked.applyAsLong(made.get()), MillLine.NONE);
        changesNothing(call, asked);
    }

    private void no(String call, Predicate<MillLine> asked) {
        c.due(call, asked.test(made.get()), false);
        changesNothing(call, x -> asked.test(x) ? 1 : 0);
    }

    private void changesNothing(String call, ToLongFunction<MillLine> asked) {
        for (int i = 0; i < ways.size(); i++) {
            String difference = Look.difference(due.get(i), Look.all(after(asked, ways.get(i))));
            c.due(call + " changes " + (i == 0 ? "" : "later ") + difference, difference == null, true);
        }
    }

    /** What THE LINE that does not stand refuses. */
    private void whatNeedsStanding() {
        none("feed", x -> x.feed(0, 1, 0, 0, 0));
        none("beat", x -> x.beat(1));
        no("STOP", x -> x.command(0));
        no("GO", x -> x.command(1));
        no("DRAIN", x -> x.command(2));
        no("divert", x -> x.divert(0, 0, 0));
        none("quiet", MillLine::quiet);
    }

    private void whatNeverIs() {
        int[] wrong = {LOW, -1, HIGH};
        for (int n : wrong) {
            no("bin " + n, x -> x.bin(n, 1));
            no("room " + n, x -> x.bin(15, n));
            no("stage " + n, x -> x.stage(n, 0, 0, 1));
            no("kind " + n, x -> x.stage(11, n, 0, 1));
            no("a " + n, x -> x.stage(11, 0, n, 1));
            no("beats " + n, x -> x.stage(11, 0, 0, n));
            none("from STAGE " + n, x -> x.from(n, 0));
            none("from BIN " + n, x -> x.from(0, n));
            none("to STAGE " + n, x -> x.to(n, 0, 1));
            none("to BIN " + n, x -> x.to(0, n, 1));
            none("feed BIN " + n, x -> x.feed(n, 1, 0, 0, 0));
            none("feed GRAMS " + n, x -> x.feed(0, n, 0, 0, 0));
            none("feed GRADE " + n, x -> x.feed(0, 1, n, 0, 0));
            none("feed DAMP " + n, x -> x.feed(0, 1, 0, n, 0));
            none("feed ORIGIN " + n, x -> x.feed(0, 1, 0, 0, n));
            no("plan STAGE " + n, x -> x.plan(n, 1, 0));
            no("plan n " + n, x -> x.plan(0, n, 0));
            no("plan sort " + n, x -> x.plan(0, 900, n));
            no("rule STAGE " + n, x -> x.rule(n, 0, 1, 1));
            no("rule sort " + n, x -> x.rule(0, n, 1, 1));
            no("rule way " + n, x -> x.rule(0, 0, n, 1));
            no("rule MENDING " + n, x -> x.rule(0, 0, 1, n));
            none("beat " + n, x -> x.beat(n));
            no("command " + n, x -> x.command(n));
            no("divert STAGE " + n, x -> x.divert(n, 0, 0));
            no("divert OUT " + n, x -> x.divert(0, n, 0));
            no("divert BIN " + n, x -> x.divert(0, 0, n));
        }
    }

    private static void tellAPack(MillLine x) {
        x.bin(0, 20);
        x.bin(15, 20);
        x.stage(0, 5, 10, 1);
        x.from(0, 0);
        x.stands();
        x.feed(0, 15, 0, 0, 0);
        x.beat(3);
    }

    private static void ofANewObject(Checks c) {
        RefusedTest t = new RefusedTest(c, "of a new object", MillLine::new, RefusedTest::tellAPack);
        t.whatNeverIs();
        t.whatNeedsStanding();
        t.none("stands", MillLine::stands);
        t.none("from", x -> x.from(0, 0));
        t.none("to", x -> x.to(0, 0, 1));
        t.no("plan", x -> x.plan(0, 1, 0));
        t.no("rule", x -> x.rule(0, 0, 2, 1));
    }

    /** STAGE 0 is a ROLL that lacks an OUT, 1 a BLEND that lacks an IN, 2 is whole. */
    private static MillLine told() {
        MillLine x = Checks.bins(8, 2);
        Checks.add(x, 0, 2, 0, 1, Checks.row(0), Checks.row(1), 500);
        Checks.add(x, 1, 4, 0, 1, Checks.row(1), Checks.row(3));
        Checks.add(x, 2, 0, 0, 1, Checks.row(3), Checks.row(4));
        x.plan(0, 2, 1);
        return x;
    }

    private static void standAndRun(MillLine x) {
        x.to(0, 2, 500);
        x.from(1, 2);
        x.stands();
        for (int i = 0; i < 5; i++) {
            x.feed(0, 100 + i, i, 50 * i, i % 4);
            x.beat(3);
        }
        x.beat(20);
    }

    private static void ofALineThatIsTold(Checks c) {
        RefusedTest t = new RefusedTest(c, "of a line that is told", RefusedTest::told, RefusedTest::standAndRun);
        t.whatNeverIs();
        t.whatNeedsStanding();
        t.no("bin told", x -> x.bin(0, 20));
        t.no("bin 16", x -> x.bin(16, 1));
        t.no("room 0", x -> x.bin(8, 0));
        t.no("room 21", x -> x.bin(8, 21));
        t.no("stage told", x -> x.stage(0, 5, 1, 1));
        t.no("stage 12", x -> x.stage(12, 5, 1, 1));
        t.no("kind 6", x -> x.stage(3, 6, 1, 1));
        t.no("a of CLEAN", x -> x.stage(3, 0, 901, 1));
        t.no("a of TEMPER", x -> x.stage(3, 1, 0, 1));
        t.no("a of SIFT", x -> x.stage(3, 3, 10, 1));
        t.no("a of PACK", x -> x.stage(3, 5, 50001, 1));
        t.no("beats 21", x -> x.stage(3, 5, 1, 21));
        t.none("from, as many as it needs", x -> x.from(0, 5));
        t.none("from a STAGE that was not told", x -> x.from(3, 5));
        t.none("from a BIN that was not told", x -> x.from(1, 8));
        t.none("to, as many as it needs", x -> x.to(2, 5, 1));
        t.none("to a STAGE that was not told", x -> x.to(3, 5, 1));
        t.none("to a BIN that was not told", x -> x.to(0, 8, 500));
        t.none("SHARE 0", x -> x.to(0, 2, 0));
        t.none("SHARE 1000", x -> x.to(0, 2, 1000));
        t.no("plan again", x -> x.plan(0, 2, 0));
        t.no("plan 0", x -> x.plan(0, 0, 0));
        t.no("plan 1001", x -> x.plan(0, 1001, 0));
        t.no("rule MENDING 31", x -> x.rule(0, 1, 1, 31));
        t.no("rule way 3", x -> x.rule(0, 1, 3, 3));
        // What lacks is no refusal, but it changes nothing either.
        t.c.due("stands", told().stands(), 2);
        t.changesNothing("stands", MillLine::stands);
    }

    /** Six STAGES: that WORKS, is PUSHED BACK, MENDED, WAITS, and a PACK with something left. */
    private static MillLine running() {
        MillLine x = Checks.bins(12, 2);
        Checks.add(x, 0, 2, 0, 1, Checks.row(0), Checks.row(1, 2), 500, 500);
        Checks.add(x, 1, 4, 0, 4, Checks.row(1, 2), Checks.row(3));
        Checks.add(x, 2, 0, 100, 1, Checks.row(4), Checks.row(5));
        Checks.add(x, 3, 1, 300, 1, Checks.row(6), Checks.row(7));
        Checks.add(x, 4, 5, 100, 1, Checks.row(8), Checks.row());
        Checks.add(x, 5, 3, 4, 1, Checks.row(9), Checks.row(10, 11));
        x.plan(3, 1, 2);
        x.plan(1, 2, 0);
        x.rule(1, 0, 2, 9);
        x.stands();
        Checks.fill(x, 5, 2);
        int[] fed = {0, 0, 4, 6, 8};
        for (int b : fed) {
            x.feed(b, 150, 3, 20, b % 4);
        }
        x.beat(3);
        x.feed(0, 10, 0, 0, 0);
        x.feed(0, 10, 0, 0, 0);
        return x;
    }

    private static void runOn(MillLine x) {
        x.feed(9, 10, 5, 0, 0);
        x.beat(9);
        x.command(1);
        x.divert(2, 0, 10);
        x.beat(9);
        x.feed(6, 10, 5, 0, 0);
        x.beat(9);
    }

    private static void ofALineThatRuns(Checks c) {
        RefusedTest t = new RefusedTest(c, "of a line that runs", RefusedTest::running, RefusedTest::runOn);
        int[] states = {0, 1, 2, 3, 0, 0};
        MillLine seen = running();
        for (int s = 0; s < 6; s++) {
            c.due("state of " + s, seen.state(s, 0), states[s]);
        }
        t.whatNeverIs();
        t.whatStandingRefuses();
        t.none("feed a full BIN", x -> x.feed(5, 1, 0, 0, 0));
        t.none("feed a BIN that was not told", x -> x.feed(12, 1, 0, 0, 0));
        t.none("feed GRAMS 0", x -> x.feed(4, 0, 0, 0, 0));
        t.none("feed GRAMS 100001", x -> x.feed(4, 100001, 0, 0, 0));
        t.none("feed GRADE 10", x -> x.feed(4, 1, 10, 0, 0));
        t.none("feed DAMP 1000", x -> x.feed(4, 1, 0, 1000, 0));
        t.none("feed ORIGIN 4", x -> x.feed(4, 1, 0, 0, 4));
        t.no("plan what has ENDED", x -> x.plan(3, 1, 1));
        t.no("plan again", x -> x.plan(1, 2, 1));
        t.no("rule sort 3", x -> x.rule(1, 3, 0, 1));
        t.none("beat 0", x -> x.beat(0));
        t.none("beat 201", x -> x.beat(201));
        t.no("command 3", x -> x.command(3));
        t.no("divert an OUT that is none", x -> x.divert(0, 2, 5));
        t.no("divert a PACK", x -> x.divert(4, 0, 5));
        t.no("divert to a BIN that was not told", x -> x.divert(0, 0, 12));
        t.no("divert a STAGE that was not told", x -> x.divert(6, 0, 1));
    }

    private void whatStandingRefuses() {
        no("bin", x -> x.bin(12, 1));
        no("stage", x -> x.stage(6, 0, 0, 1));
        none("from", x -> x.from(0, 9));
        none("to", x -> x.to(0, 9, 1));
        none("stands again", MillLine::stands);
    }

    private static MillLine stopped() {
        MillLine x = running();
        x.command(2);
        x.command(0);
        return x;
    }

    private static void goAndRunOn(MillLine x) {
        x.beat(2);
        x.command(1);
        runOn(x);
    }

    private static void ofALineThatIsStopped(Checks c) {
        RefusedTest t = new RefusedTest(c, "of a line that is STOPPED", RefusedTest::stopped, RefusedTest::goAndRunOn);
        t.whatNeverIs();
        t.whatStandingRefuses();
        t.none("feed in DRAIN", x -> x.feed(4, 1, 0, 0, 0));
        t.none("beat 201", x -> x.beat(201));
        t.no("command 3", x -> x.command(3));
        t.no("divert an OUT that is none", x -> x.divert(2, 1, 6));
    }

    /** No LOT, FAULT or BEAT more: 1500, 40 and 5000 of them were there. */
    private static MillLine spent() {
        MillLine x = Checks.withLots(1500, y -> {
            Checks.add(y, 0, 0, 0, 1, Checks.row(0), Checks.row(1));
            for (int n = 1; n <= 40; n++) {
                y.plan(0, n, 0);
            }
        });
        for (int i = 0; i < 17; i++) {
            x.beat(200);
        }
        x.beat(120);
        return x;
    }

    private static void ofALineThatIsSpent(Checks c) {
        RefusedTest t = new RefusedTest(c, "of a line that is spent", RefusedTest::spent, x -> x.command(0));
        c.due("LOTS", spent().count(1), 1500);
        c.due("BEATS", spent().count(0), 5000);
        c.due("FAULTS", spent().count(6), 40);
        t.none("feed", x -> x.feed(0, 1, 0, 0, 0));
        t.none("beat", x -> x.beat(1));
        t.none("beat 200", x -> x.beat(200));
        t.no("plan", x -> x.plan(10, 1000, 0));
        t.whatStandingRefuses();
    }

    /** Questions are no calls that change: what was asked all of it answers as what was asked nothing. */
    private static void whatIsAsked(Checks c) {
        c.by("Questions change nothing");
        MillLine x = running();
        MillLine y = running();
        for (int i = 0; i <= 11; i++) {
            y.ring(i);
            y.quiet();
            y.total(i);
            y.count(i);
            y.sacks(i);
            y.aside(i, 0);
            y.part(i, 0);
            y.level(i, 0);
            y.in(i, 0, 0);
            y.state(i, 8);
        }
        runOn(x);
        runOn(y);
        for (int i = 0; i <= 11; i++) {
            c.due("state " + i, y.state(i, 0), x.state(i, 0));
            c.due("GRAMS " + i, y.level(i, 3), x.level(i, 3));
            c.due("total " + i, y.total(i), x.total(i));
            c.due("count " + i, y.count(i), x.count(i));
        }
    }
}
