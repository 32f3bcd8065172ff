import java.util.Arrays;

/**
 * A flour mill's line, beat by beat: the face only tests what it is told and hands it on;
 * the layout, the lots, the beats and the ring each have a class of their own below.
 */
public final class MillLine {
    public static final int NONE = -1;

    private static final int BINS = 16;
    private static final int MOST_ROOM = 20;
    private static final int STAGES = 12;
    private static final int MOST_BEATS_OF_WORKING = 20;
    private static final int MOST_INS = 2;
    private static final int MOST_OUTS = 3;
    private static final int WHOLE = 1000;

    private static final int CLEAN = 0;
    private static final int TEMPER = 1;
    private static final int ROLL = 2;
    private static final int SIFT = 3;
    private static final int BLEND = 4;
    private static final int PACK = 5;

    private static final int WAITS = 0;
    private static final int WORKS = 1;
    private static final int PUSHED_BACK = 2;
    private static final int MENDED = 3;
    private static final int STOPPED = 4;

    private static final int MOST_LOTS = 1500;
    private static final int FIRST_LOTS = 64;
    private static final int MOST_GRAMS_FED = 100000;
    private static final int GRADES = 10;
    private static final int MOST_DAMP = 999;
    private static final int ORIGINS = 4;
    private static final int MILLION = 1000000;

    private static final int SORTS = 3;
    private static final int SET_ASIDE = 0;
    private static final int GO_ON = 1;
    private static final int STOP_LINE = 2;
    private static final int MOST_PLANNED = 40;
    private static final int MOST_PLANNED_WORKING = 1000;
    private static final int MOST_MENDING = 30;
    private static final int FIRST_MENDING = 5;

    private static final int MOST_BEATS_A_CALL = 200;
    private static final int MOST_BEATS = 5000;
    private static final int STOP = 0;
    private static final int GO = 1;
    private static final int DRAIN = 2;

    private static final int LACKS_INS = 1;
    private static final int LACKS_OUTS = 2;
    private static final int LACKS_SHARES = 3;
    private static final int LACKS_OWN_INS = 4;

    private final Layout layout;
    private final Lots lots;
    private final Ledger ledger;
    private final Faults faults;
    private final Run run;
    private final Rings rings;
    private boolean standing;
    private boolean draining;

    public MillLine() {
        layout = new Layout();
        lots = new Lots();
        ledger = new Ledger();
        faults = new Faults();
        run = new Run(layout, lots, ledger, faults);
        rings = new Rings();
    }

    public boolean bin(int b, int room) {
        return !standing && layout.addBin(b, room);
    }

    public boolean stage(int s, int kind, int a, int beats) {
        return !standing && layout.addStage(s, kind, a, beats);
    }

    public int from(int s, int b) {
        Stage stage = layout.stageAt(s);
        if (standing || stage == null || layout.binAt(b) == null) {
            return NONE;
        }
        return stage.addIn(b);
    }

    public int to(int s, int b, int share) {
        Stage stage = layout.stageAt(s);
        if (standing || stage == null || layout.binAt(b) == null) {
            return NONE;
        }
        return stage.addOut(b, share);
    }

    public int stands() {
        if (standing || layout.told == 0) {
            return NONE;
        }
        int lack = layout.firstLack();
        standing = lack == 0;
        return lack;
    }

    public int feed(int b, int grams, int grade, int damp, int origin) {
        Bin bin = layout.binAt(b);
        if (!standing || draining || bin == null || !isGrain(grams, grade, damp, origin)) {
            return NONE;
        }
        if (!bin.hasRoomFor(1) || !lots.hasNumbersFor(1)) {
            return NONE;
        }
        int lot = lots.bring(grams, grade, damp, origin);
        bin.addBehind(lot);
        ledger.fed += grams;
        return lot;
    }

    private static boolean isGrain(int grams, int grade, int damp, int origin) {
        return isWithin(grams, 1, MOST_GRAMS_FED) && isWithin(grade, 0, GRADES - 1)
            && isWithin(damp, 0, MOST_DAMP) && isWithin(origin, 0, ORIGINS - 1);
    }

    public boolean plan(int s, int n, int sort) {
        Stage stage = layout.stageAt(s);
        if (stage == null || !isWithin(n, 1, MOST_PLANNED_WORKING) || !isWithin(sort, 0, SORTS - 1)) {
            return false;
        }
        return n > stage.ended && faults.add(s, n, sort);
    }

    public boolean rule(int s, int sort, int way, int mending) {
        Stage stage = layout.stageAt(s);
        if (stage == null || !isWithin(sort, 0, SORTS - 1)) {
            return false;
        }
        if (!isWithin(way, SET_ASIDE, STOP_LINE) || !isWithin(mending, 1, MOST_MENDING)) {
            return false;
        }
        stage.setRule(sort, way, mending);
        return true;
    }

    public int beat(int n) {
        if (!standing || !isWithin(n, 1, MOST_BEATS_A_CALL) || run.beats + n > MOST_BEATS) {
            return NONE;
        }
        for (int i = 0; i < n; i++) {
            run.passBeat();
        }
        return run.beats;
    }

    public boolean command(int what) {
        if (!standing || !isWithin(what, STOP, DRAIN)) {
            return false;
        }
        if (what == STOP) {
            run.stopAll();
        } else if (what == GO) {
            run.goOn();
            draining = false;
        } else {
            draining = true;
        }
        return true;
    }

    public boolean divert(int s, int i, int b) {
        Stage stage = layout.stageAt(s);
        if (!standing || stage == null || layout.binAt(b) == null) {
            return false;
        }
        return stage.turnOut(i, b);
    }

    public int state(int s, int what) {
        Stage stage = layout.stageAt(s);
        if (stage == null) {
            return NONE;
        }
        switch (what) {
            case 0: return stage.mode;
            case 1: return stage.toGo;
            case 2: return stage.ended;
            case 3: return stage.beatsWaited;
            case 4: return stage.beatsPushedBack;
            case 5: return stage.beatsMended;
            case 6: return stage.load.first;
            case 7: return stage.faultsCome;
            case 8: return (int) stage.gramsHeld(lots);
            case 9: return stage.outAt(0);
            default: return NONE;
        }
    }

    public int in(int b, int i, int what) {
        Bin bin = layout.binAt(b);
        int lot = bin == null ? NONE : bin.lotAt(i);
        if (lot == NONE) {
            return NONE;
        }
        switch (what) {
            case 0: return lot;
            case 1: return lots.gramsOf(lot);
            case 2: return lots.gradeOf(lot);
            case 3: return lots.dampOf(lot);
            default: return NONE;
        }
    }

    public int level(int b, int what) {
        Bin bin = layout.binAt(b);
        if (bin == null) {
            return NONE;
        }
        switch (what) {
            case 0: return bin.size;
            case 1: return bin.mostAtEnd;
            case 2: return bin.room;
            case 3: return (int) bin.gramsHeld(lots);
            default: return NONE;
        }
    }

    public int part(int lot, int origin) {
        if (!lots.has(lot) || !isWithin(origin, 0, ORIGINS - 1)) {
            return NONE;
        }
        return lots.partOf(lot, origin);
    }

    public int sacks(int grade) {
        return ledger.sacksOf(grade);
    }

    public int aside(int i, int what) {
        return ledger.asideAt(i, what);
    }

    public long total(int what) {
        switch (what) {
            case 0: return ledger.fed;
            case 1: return ledger.water;
            case 2: return ledger.packed;
            case 3: return ledger.waste;
            case 4: return ledger.setAside;
            case 5: return layout.gramsInBins(lots);
            case 6: return layout.gramsInStages(lots);
            default: return NONE;
        }
    }

    public int quiet() {
        if (!standing) {
            return NONE;
        }
        return run.isQuiet() ? 1 : 0;
    }

    public int ring(int i) {
        rings.find(layout);
        return rings.stageAt(i);
    }

    public int count(int what) {
        switch (what) {
            case 0: return run.beats;
            case 1: return lots.told;
            case 2: return standing ? 1 : 0;
            case 3: return draining ? 1 : 0;
            case 4: return ledger.asides;
            case 5: return layout.told;
            case 6: return faults.planned - faults.come;
            default: return NONE;
        }
    }

    private static boolean isWithin(int x, int least, int most) {
        return x >= least && x <= most;
    }

    /** All LOTS that ever were, by number: those that are gone still answer for their PARTS. */
    private static final class Lots {
        private int told;
        private int[] grams = new int[FIRST_LOTS];
        private int[] grades = new int[FIRST_LOTS];
        private int[] damps = new int[FIRST_LOTS];
        private int[] parts = new int[FIRST_LOTS * ORIGINS];

        boolean has(int lot) {
            return lot >= 0 && lot < told;
        }

        boolean hasNumbersFor(int more) {
            return told + more <= MOST_LOTS;
        }

        int gramsOf(int lot) {
            return has(lot) ? grams[lot] : 0;
        }

        int gradeOf(int lot) {
            return has(lot) ? grades[lot] : 0;
        }

        int dampOf(int lot) {
            return has(lot) ? damps[lot] : 0;
        }

        int partOf(int lot, int origin) {
            return has(lot) && isWithin(origin, 0, ORIGINS - 1) ? parts[lot * ORIGINS + origin] : 0;
        }

        void setGrams(int lot, long newGrams) {
            if (has(lot)) {
                grams[lot] = (int) newGrams;
            }
        }

        void setDamp(int lot, int damp) {
            if (has(lot)) {
                damps[lot] = damp;
            }
        }

        int bring(int newGrams, int grade, int damp, int origin) {
            int lot = make(newGrams, grade, damp);
            if (has(lot) && isWithin(origin, 0, ORIGINS - 1)) {
                parts[lot * ORIGINS + origin] = MILLION;
            }
            return lot;
        }

        /** A new LOT like another one, but for its GRAMS and GRADE. */
        int splitFrom(int like, int newGrams, int grade) {
            int lot = make(newGrams, grade, dampOf(like));
            if (has(lot) && has(like)) {
                System.arraycopy(parts, like * ORIGINS, parts, lot * ORIGINS, ORIGINS);
            }
            return lot;
        }

        private int make(int newGrams, int grade, int damp) {
            if (!hasNumbersFor(1)) {
                return NONE;
            }
            lengthenIfFull();
            int lot = told;
            grams[lot] = newGrams;
            grades[lot] = grade;
            damps[lot] = damp;
            told++;
            return lot;
        }

        /** The rows grow with the LOTS, so that an object that is hardly used stays small. */
        private void lengthenIfFull() {
            if (told < grams.length) {
                return;
            }
            int longer = Math.min(MOST_LOTS, 2 * grams.length);
            grams = Arrays.copyOf(grams, longer);
            grades = Arrays.copyOf(grades, longer);
            damps = Arrays.copyOf(damps, longer);
            parts = Arrays.copyOf(parts, longer * ORIGINS);
        }

        /** The first LOT gets all but the PARTS of both; the second stays as it was, though it is gone. */
        void joinGrain(int first, int second) {
            if (!has(first) || !has(second)) {
                return;
            }
            long one = grams[first];
            long other = grams[second];
            grades[first] = nearest(one * grades[first] + other * grades[second], one + other);
            damps[first] = nearest(one * damps[first] + other * damps[second], one + other);
            grams[first] = (int) (one + other);
        }

        void joinParts(int first, int second) {
            if (!has(first) || !has(second)) {
                return;
            }
            long one = grams[first];
            long other = grams[second];
            if (one + other <= 0) {
                return;
            }
            int row = first * ORIGINS;
            int lacking = MILLION;
            int greatest = row;
            for (int origin = 0; origin < ORIGINS; origin++) {
                long sum = one * parts[row + origin] + other * parts[second * ORIGINS + origin];
                parts[row + origin] = (int) (sum / (one + other));
                lacking -= parts[row + origin];
                if (parts[row + origin] > parts[greatest]) {
                    greatest = row + origin;
                }
            }
            parts[greatest] += lacking;
        }

        /** Of two whole numbers that are as near, the even one. */
        private static int nearest(long sum, long by) {
            if (by <= 0) {
                return 0;
            }
            long whole = sum / by;
            long twiceRest = 2 * (sum - whole * by);
            boolean isUp = twiceRest > by || (twiceRest == by && whole % 2 != 0);
            return (int) (isUp ? whole + 1 : whole);
        }
    }

    /** LOTS one behind another. */
    private static final class Bin {
        private final int room;
        /** One more than ROOM: the LOT that its STAGE works upon may come back when it is full again. */
        private final int[] queue = new int[MOST_ROOM + 1];
        private int size;
        private int mostAtEnd;

        Bin(int room) {
            this.room = room;
        }

        boolean hasRoomFor(int more) {
            return size + more <= room;
        }

        int lotAt(int i) {
            return i >= 0 && i < size && i < queue.length ? queue[i] : NONE;
        }

        void addBehind(int lot) {
            if (size >= 0 && size < queue.length) {
                queue[size] = lot;
                size++;
            }
        }

        void addInFront(int lot) {
            if (size >= queue.length) {
                return;
            }
            for (int i = size; i > 0; i--) {
                queue[i] = queue[i - 1];
            }
            queue[0] = lot;
            size++;
        }

        int takeFirst() {
            if (size <= 0) {
                return NONE;
            }
            int lot = queue[0];
            size--;
            for (int i = 0; i < size; i++) {
                queue[i] = queue[i + 1];
            }
            return lot;
        }

        long gramsHeld(Lots lots) {
            long sum = 0;
            for (int i = 0; i < size; i++) {
                sum += lots.gramsOf(lotAt(i));
            }
            return sum;
        }

        void noteEndOfBeat() {
            mostAtEnd = Math.max(mostAtEnd, size);
        }
    }

    /** What a STAGE has: the LOTS it took, and when its WORKING has ENDED, what it wants to put where. */
    private static final class Load {
        private int first = NONE;
        private int second = NONE;
        private int outOfFirst;
        /** By OUT: the GRAMS of LOTS that get their numbers only when they are put. */
        private final int[] newGrams = new int[MOST_OUTS];

        boolean isEmpty() {
            return first == NONE;
        }

        void take(int lot) {
            if (first == NONE) {
                first = lot;
            } else {
                second = lot;
            }
        }

        void clear() {
            first = NONE;
            second = NONE;
            outOfFirst = 0;
            Arrays.fill(newGrams, 0);
        }

        int newGramsFor(int out) {
            return out >= 0 && out < newGrams.length ? newGrams[out] : 0;
        }

        void setNewGrams(int out, int grams) {
            if (out >= 0 && out < newGrams.length) {
                newGrams[out] = grams;
            }
        }

        boolean wants(int out) {
            if (first == NONE) {
                return false;
            }
            return out == outOfFirst || (out >= 0 && out < newGrams.length && newGrams[out] > 0);
        }

        int newLots() {
            int lots = 0;
            for (int out = 0; out < MOST_OUTS; out++) {
                lots += newGramsFor(out) > 0 ? 1 : 0;
            }
            return lots;
        }

        long gramsHeld(Lots lots) {
            long sum = (long) lots.gramsOf(first) + lots.gramsOf(second);
            for (int out = 0; out < MOST_OUTS; out++) {
                sum += newGramsFor(out);
            }
            return sum;
        }
    }

    private static final class Stage {
        private final int number;
        private final int kind;
        private final int a;
        private final int beats;
        private final int[] ins = new int[MOST_INS];
        private int inCount;
        private final int[] outs = new int[MOST_OUTS];
        private final int[] shares = new int[MOST_OUTS];
        private int outCount;
        private final int[] ways = new int[SORTS];
        private int mending = FIRST_MENDING;
        private int mode = WAITS;
        private int toGo;
        private int ended;
        private int faultsCome;
        private int beatsWaited;
        private int beatsPushedBack;
        private int beatsMended;
        private final Load load = new Load();
        /** By GRADE: what a PACK has that fills no SACK yet. */
        private final int[] left = new int[GRADES];

        Stage(int number, int kind, int a, int beats) {
            this.number = number;
            this.kind = kind;
            this.a = a;
            this.beats = beats;
        }

        static boolean isKind(int kind, int a) {
            switch (kind) {
                case CLEAN: return isWithin(a, 0, 900);
                case TEMPER: return isWithin(a, 1, 500);
                case SIFT: return isWithin(a, 0, GRADES - 1);
                case PACK: return isWithin(a, 1, 50000);
                case ROLL:
                case BLEND: return true;
                default: return false;
            }
        }

        int insNeeded() {
            return kind == BLEND ? 2 : 1;
        }

        int outsNeeded() {
            switch (kind) {
                case PACK: return 0;
                case ROLL:
                case SIFT: return 2;
                default: return 1;
            }
        }

        private int mostOuts() {
            return kind == ROLL ? 3 : outsNeeded();
        }

        int addIn(int b) {
            if (inCount >= insNeeded() || inCount >= ins.length) {
                return NONE;
            }
            ins[inCount] = b;
            inCount++;
            return inCount;
        }

        int addOut(int b, int share) {
            if (outCount >= mostOuts() || outCount >= outs.length || outCount >= shares.length) {
                return NONE;
            }
            if (kind == ROLL && !isWithin(share, 1, WHOLE - 1)) {
                return NONE;
            }
            outs[outCount] = b;
            shares[outCount] = share;
            outCount++;
            return outCount;
        }

        int inAt(int i) {
            return i >= 0 && i < inCount && i < ins.length ? ins[i] : NONE;
        }

        int outAt(int i) {
            return i >= 0 && i < outCount && i < outs.length ? outs[i] : NONE;
        }

        int shareAt(int i) {
            return i >= 0 && i < outCount && i < shares.length ? shares[i] : 0;
        }

        boolean turnOut(int i, int b) {
            if (i < 0 || i >= outCount || i >= outs.length) {
                return false;
            }
            outs[i] = b;
            return true;
        }

        boolean takesFrom(int b) {
            for (int i = 0; i < inCount; i++) {
                if (inAt(i) == b) {
                    return true;
                }
            }
            return false;
        }

        boolean hasOneInTwice() {
            return inCount == 2 && inAt(0) == inAt(1);
        }

        boolean areSharesRight() {
            if (kind != ROLL) {
                return true;
            }
            int sum = 0;
            for (int i = 0; i < outCount; i++) {
                sum += shareAt(i);
            }
            return sum == WHOLE;
        }

        void setRule(int sort, int way, int newMending) {
            if (sort >= 0 && sort < ways.length) {
                ways[sort] = way;
                mending = newMending;
            }
        }

        /** A PACK has no OUT to go on into, and the two LOTS of a BLEND would not be one. */
        int wayFor(int sort) {
            int way = sort >= 0 && sort < ways.length ? ways[sort] : SET_ASIDE;
            return way == GO_ON && (kind == PACK || kind == BLEND) ? SET_ASIDE : way;
        }

        /** How many LOTS it wants to put into a BIN, which may be several of its OUTS. */
        int lotsWantedIn(int b) {
            int wanted = 0;
            for (int out = 0; out < outCount; out++) {
                wanted += outAt(out) == b && load.wants(out) ? 1 : 0;
            }
            return wanted;
        }

        /** One BEAT less to go: whether a WORKING ENDS by it. */
        boolean endsByBeat() {
            if (mode != WORKS && mode != MENDED) {
                return false;
            }
            toGo--;
            if (toGo > 0) {
                return false;
            }
            if (mode == WORKS) {
                return true;
            }
            mode = WAITS;
            return false;
        }

        void turnTo(int newMode, int newToGo) {
            mode = newMode;
            toGo = newToGo;
        }

        int leftOf(int grade) {
            return grade >= 0 && grade < left.length ? left[grade] : 0;
        }

        void setLeft(int grade, long grams) {
            if (grade >= 0 && grade < left.length) {
                left[grade] = (int) grams;
            }
        }

        long gramsHeld(Lots lots) {
            long sum = load.gramsHeld(lots);
            for (int grade = 0; grade < GRADES; grade++) {
                sum += leftOf(grade);
            }
            return sum;
        }

        void noteEndOfBeat() {
            if (mode == WAITS) {
                beatsWaited++;
            } else if (mode == PUSHED_BACK) {
                beatsPushedBack++;
            } else if (mode == MENDED) {
                beatsMended++;
            }
        }
    }

    /** The BINS and STAGES that were told, and whether they make a line. */
    private static final class Layout {
        private final Bin[] bins = new Bin[BINS];
        private final Stage[] stages = new Stage[STAGES];
        private int told;

        Bin binAt(int b) {
            return b >= 0 && b < bins.length ? bins[b] : null;
        }

        Stage stageAt(int s) {
            return s >= 0 && s < stages.length ? stages[s] : null;
        }

        boolean addBin(int b, int room) {
            if (b < 0 || b >= bins.length || bins[b] != null || !isWithin(room, 1, MOST_ROOM)) {
                return false;
            }
            bins[b] = new Bin(room);
            return true;
        }

        boolean addStage(int s, int kind, int a, int beats) {
            if (s < 0 || s >= stages.length || stages[s] != null) {
                return false;
            }
            if (!Stage.isKind(kind, a) || !isWithin(beats, 1, MOST_BEATS_OF_WORKING)) {
                return false;
            }
            stages[s] = new Stage(s, kind, a, beats);
            told++;
            return true;
        }

        int firstLack() {
            for (int s = 0; s < STAGES; s++) {
                Stage stage = stageAt(s);
                int lack = stage == null ? 0 : lackOf(stage);
                if (lack != 0) {
                    return 100 * s + lack;
                }
            }
            return 0;
        }

        private int lackOf(Stage stage) {
            if (stage.inCount < stage.insNeeded()) {
                return LACKS_INS;
            }
            if (stage.outCount < stage.outsNeeded()) {
                return LACKS_OUTS;
            }
            if (!stage.areSharesRight()) {
                return LACKS_SHARES;
            }
            return stage.hasOneInTwice() || hasInOfLower(stage) ? LACKS_OWN_INS : 0;
        }

        private boolean hasInOfLower(Stage stage) {
            for (int s = 0; s < stage.number; s++) {
                Stage lower = stageAt(s);
                for (int i = 0; lower != null && i < stage.inCount; i++) {
                    if (lower.takesFrom(stage.inAt(i))) {
                        return true;
                    }
                }
            }
            return false;
        }

        boolean isFullFor(Stage stage, int out) {
            int b = stage.outAt(out);
            Bin bin = binAt(b);
            return bin == null || !bin.hasRoomFor(stage.lotsWantedIn(b));
        }

        long gramsInBins(Lots lots) {
            long sum = 0;
            for (int b = 0; b < BINS; b++) {
                Bin bin = binAt(b);
                sum += bin == null ? 0 : bin.gramsHeld(lots);
            }
            return sum;
        }

        long gramsInStages(Lots lots) {
            long sum = 0;
            for (int s = 0; s < STAGES; s++) {
                Stage stage = stageAt(s);
                sum += stage == null ? 0 : stage.gramsHeld(lots);
            }
            return sum;
        }
    }

    /** GRAMS that came or went, SACKS, and the LOTS SET ASIDE. */
    private static final class Ledger {
        private static final int COLUMNS = 5;
        /** No FAULT that was not planned, and none sets more LOTS aside than a STAGE takes. */
        private static final int MOST_ASIDES = MOST_PLANNED * MOST_INS;

        private long fed;
        private long water;
        private long packed;
        private long waste;
        private long setAside;
        private final int[] sackCounts = new int[GRADES];
        private int asides;
        private final int[] asideRows = new int[MOST_ASIDES * COLUMNS];

        int sacksOf(int grade) {
            return grade >= 0 && grade < sackCounts.length ? sackCounts[grade] : NONE;
        }

        void addSacks(int grade, long more, int gramsOfOne) {
            if (grade >= 0 && grade < sackCounts.length) {
                sackCounts[grade] += (int) more;
                packed += more * gramsOfOne;
            }
        }

        int asideAt(int i, int what) {
            if (i < 0 || i >= asides || what < 0 || what >= COLUMNS) {
                return NONE;
            }
            return asideRows[i * COLUMNS + what];
        }

        void addAside(int lot, int stage, int sort, int beat, int grams) {
            if (asides >= MOST_ASIDES) {
                return;
            }
            int row = asides * COLUMNS;
            asideRows[row] = lot;
            asideRows[row + 1] = stage;
            asideRows[row + 2] = sort;
            asideRows[row + 3] = beat;
            asideRows[row + 4] = grams;
            asides++;
            setAside += grams;
        }
    }

    /** The FAULTS that were planned, also those that have come. */
    private static final class Faults {
        private final int[] stages = new int[MOST_PLANNED];
        private final int[] workings = new int[MOST_PLANNED];
        private final int[] sorts = new int[MOST_PLANNED];
        private int planned;
        private int come;

        boolean add(int stage, int working, int sort) {
            if (planned >= MOST_PLANNED || sortAt(stage, working) != NONE) {
                return false;
            }
            stages[planned] = stage;
            workings[planned] = working;
            sorts[planned] = sort;
            planned++;
            return true;
        }

        private int sortAt(int stage, int working) {
            for (int i = 0; i < planned && i < MOST_PLANNED; i++) {
                if (stages[i] == stage && workings[i] == working) {
                    return sorts[i];
                }
            }
            return NONE;
        }

        /** A WORKING ENDS once, so a FAULT comes once. */
        int comeAt(int stage, int working) {
            int sort = sortAt(stage, working);
            if (sort != NONE) {
                come++;
            }
            return sort;
        }
    }

    /** What each KIND does with its LOTS when a WORKING ENDS without a FAULT. */
    private static final class Works {
        private final Lots lots;
        private final Ledger ledger;

        Works(Lots lots, Ledger ledger) {
            this.lots = lots;
            this.ledger = ledger;
        }

        void workUpon(Stage stage) {
            switch (stage.kind) {
                case CLEAN: clean(stage); break;
                case TEMPER: temper(stage); break;
                case ROLL: roll(stage); break;
                case SIFT: sift(stage); break;
                case BLEND: blend(stage); break;
                case PACK: pack(stage); break;
                default: break;
            }
        }

        private void clean(Stage stage) {
            int lot = stage.load.first;
            long grams = lots.gramsOf(lot);
            long waste = grams * stage.a / WHOLE;
            lots.setGrams(lot, grams - waste);
            ledger.waste += waste;
        }

        private void temper(Stage stage) {
            int lot = stage.load.first;
            int lacking = stage.a - lots.dampOf(lot);
            int dry = WHOLE - stage.a;
            if (lacking <= 0 || dry <= 0) {
                return;
            }
            long grams = lots.gramsOf(lot);
            long water = grams * lacking / dry;
            lots.setGrams(lot, grams + water);
            lots.setDamp(lot, stage.a);
            ledger.water += water;
        }

        private void roll(Stage stage) {
            int lot = stage.load.first;
            long grams = lots.gramsOf(lot);
            long rest = grams;
            for (int out = 1; out < stage.outCount; out++) {
                long piece = grams * stage.shareAt(out) / WHOLE;
                stage.load.setNewGrams(out, (int) piece);
                rest -= piece;
            }
            lots.setGrams(lot, rest);
        }

        private void sift(Stage stage) {
            stage.load.outOfFirst = lots.gradeOf(stage.load.first) <= stage.a ? 0 : 1;
        }

        private void blend(Stage stage) {
            // PARTS first: they go by the GRAMS that both came with.
            lots.joinParts(stage.load.first, stage.load.second);
            lots.joinGrain(stage.load.first, stage.load.second);
            stage.load.second = NONE;
        }

        private void pack(Stage stage) {
            int lot = stage.load.first;
            int grade = lots.gradeOf(lot);
            if (stage.a > 0) {
                long grams = (long) stage.leftOf(grade) + lots.gramsOf(lot);
                long filled = grams / stage.a;
                ledger.addSacks(grade, filled, stage.a);
                stage.setLeft(grade, grams - filled * stage.a);
            }
            stage.load.clear();
        }
    }

    /** The BEATS, and the commands that change how STAGES go through them. */
    private static final class Run {
        private final Layout layout;
        private final Lots lots;
        private final Ledger ledger;
        private final Faults faults;
        private final Works works;
        private int beats;

        Run(Layout layout, Lots lots, Ledger ledger, Faults faults) {
            this.layout = layout;
            this.lots = lots;
            this.ledger = ledger;
            this.faults = faults;
            this.works = new Works(lots, ledger);
        }

        void passBeat() {
            beats++;
            for (int s = STAGES - 1; s >= 0; s--) {
                Stage stage = layout.stageAt(s);
                if (stage != null && stage.endsByBeat()) {
                    endWorking(stage);
                }
            }
            for (int s = STAGES - 1; s >= 0; s--) {
                putIfItCan(layout.stageAt(s));
            }
            for (int s = STAGES - 1; s >= 0; s--) {
                takeIfItCan(layout.stageAt(s));
            }
            noteEndOfBeat();
        }

        private void endWorking(Stage stage) {
            stage.ended++;
            int sort = faults.comeAt(stage.number, stage.ended);
            if (sort != NONE) {
                stage.faultsCome++;
                fail(stage, sort);
                return;
            }
            works.workUpon(stage);
            // What has ENDED counts as PUSHED BACK till it is put, should a FAULT stop the line before.
            stage.turnTo(stage.load.isEmpty() ? WAITS : PUSHED_BACK, 0);
        }

        private void fail(Stage stage, int sort) {
            int way = stage.wayFor(sort);
            if (way == STOP_LINE) {
                // It still WORKS, so its LOTS go back like those of all others.
                stopAll();
            } else if (way == GO_ON) {
                stage.turnTo(PUSHED_BACK, 0);
            } else {
                setAside(stage, stage.load.first, sort);
                setAside(stage, stage.load.second, sort);
                stage.load.clear();
                stage.turnTo(MENDED, stage.mending);
            }
        }

        private void setAside(Stage stage, int lot, int sort) {
            if (lot != NONE) {
                ledger.addAside(lot, stage.number, sort, beats, lots.gramsOf(lot));
            }
        }

        private void putIfItCan(Stage stage) {
            if (stage == null || stage.mode != PUSHED_BACK || !canPut(stage)) {
                return;
            }
            for (int out = 0; out < stage.outCount; out++) {
                if (stage.load.wants(out)) {
                    putInto(layout.binAt(stage.outAt(out)), stage.load, out);
                }
            }
            stage.load.clear();
            stage.turnTo(WAITS, 0);
        }

        private boolean canPut(Stage stage) {
            if (!lots.hasNumbersFor(stage.load.newLots())) {
                return false;
            }
            for (int out = 0; out < stage.outCount; out++) {
                if (stage.load.wants(out) && layout.isFullFor(stage, out)) {
                    return false;
                }
            }
            return true;
        }

        private void putInto(Bin bin, Load load, int out) {
            if (bin == null) {
                return;
            }
            if (out == load.outOfFirst) {
                bin.addBehind(load.first);
                return;
            }
            int grade = Math.min(GRADES - 1, lots.gradeOf(load.first) + out);
            bin.addBehind(lots.splitFrom(load.first, load.newGramsFor(out), grade));
        }

        private void takeIfItCan(Stage stage) {
            if (stage == null || stage.mode != WAITS || !canTake(stage)) {
                return;
            }
            for (int i = 0; i < stage.inCount; i++) {
                Bin bin = layout.binAt(stage.inAt(i));
                if (bin != null) {
                    stage.load.take(bin.takeFirst());
                }
            }
            stage.turnTo(WORKS, stage.beats);
        }

        private boolean canTake(Stage stage) {
            for (int i = 0; i < stage.inCount; i++) {
                Bin bin = layout.binAt(stage.inAt(i));
                if (bin == null || bin.size == 0) {
                    return false;
                }
            }
            return true;
        }

        private void noteEndOfBeat() {
            for (int s = 0; s < STAGES; s++) {
                Stage stage = layout.stageAt(s);
                if (stage != null) {
                    stage.noteEndOfBeat();
                }
            }
            for (int b = 0; b < BINS; b++) {
                Bin bin = layout.binAt(b);
                if (bin != null) {
                    bin.noteEndOfBeat();
                }
            }
        }

        void stopAll() {
            for (int s = 0; s < STAGES; s++) {
                Stage stage = layout.stageAt(s);
                if (stage == null) {
                    continue;
                }
                if (stage.mode == WORKS) {
                    giveBack(stage);
                }
                stage.turnTo(STOPPED, 0);
            }
        }

        private void giveBack(Stage stage) {
            returnTo(layout.binAt(stage.inAt(0)), stage.load.first);
            returnTo(layout.binAt(stage.inAt(1)), stage.load.second);
            stage.load.clear();
        }

        private static void returnTo(Bin bin, int lot) {
            if (bin != null && lot != NONE) {
                bin.addInFront(lot);
            }
        }

        void goOn() {
            for (int s = 0; s < STAGES; s++) {
                Stage stage = layout.stageAt(s);
                if (stage != null && stage.mode == STOPPED) {
                    stage.turnTo(stage.load.isEmpty() ? WAITS : PUSHED_BACK, 0);
                }
            }
        }

        boolean isQuiet() {
            for (int s = 0; s < STAGES; s++) {
                Stage stage = layout.stageAt(s);
                if (stage != null && wouldChange(stage)) {
                    return false;
                }
            }
            return true;
        }

        private boolean wouldChange(Stage stage) {
            switch (stage.mode) {
                case WORKS:
                case MENDED: return true;
                case WAITS: return canTake(stage);
                case PUSHED_BACK: return canPut(stage);
                default: return false;
            }
        }
    }

    /** THE RING: of the STAGES that push one another back, the least round of the fewest. */
    private static final class Rings {
        /** By STAGE: a bit for each STAGE that it is pushed back by. */
        private final int[] pushers = new int[STAGES];
        /** By STAGE: how many steps lead from it to the start; 0 while none is known. */
        private final int[] steps = new int[STAGES];
        private final int[] found = new int[STAGES];
        private int length;

        int stageAt(int i) {
            return i >= 0 && i < length && i < found.length ? found[i] : NONE;
        }

        void find(Layout layout) {
            length = 0;
            for (int s = 0; s < STAGES; s++) {
                pushers[s] = pushersOf(layout, layout.stageAt(s));
            }
            for (int start = 0; start < STAGES; start++) {
                int round = shortestRound(start);
                // Starts go upwards, so of as many STAGES the round with the lowest start stays.
                if (round > 0 && (length == 0 || round < length)) {
                    keepRound(start, round);
                }
            }
        }

        private static int pushersOf(Layout layout, Stage stage) {
            if (stage == null || stage.mode != PUSHED_BACK) {
                return 0;
            }
            int bits = 0;
            for (int out = 0; out < stage.outCount; out++) {
                if (stage.load.wants(out) && layout.isFullFor(stage, out)) {
                    bits |= pushedBackTakersFrom(layout, stage.outAt(out));
                }
            }
            return bits;
        }

        private static int pushedBackTakersFrom(Layout layout, int b) {
            int bits = 0;
            for (int s = 0; s < STAGES; s++) {
                Stage taker = layout.stageAt(s);
                if (taker != null && taker.mode == PUSHED_BACK && taker.takesFrom(b)) {
                    bits |= 1 << s;
                }
            }
            return bits;
        }

        /** How many STAGES a round has whose lowest is the start; 0 if there is none. */
        private int shortestRound(int start) {
            Arrays.fill(steps, 0);
            int reached = 1 << start;
            for (int step = 1; step <= STAGES; step++) {
                int newly = 0;
                for (int s = start; s < STAGES; s++) {
                    if (steps[s] == 0 && (pushers[s] & reached) != 0) {
                        steps[s] = step;
                        newly |= 1 << s;
                    }
                }
                if (steps[start] > 0) {
                    return step;
                }
                reached = newly;
            }
            return 0;
        }

        private void keepRound(int start, int round) {
            found[0] = start;
            length = round;
            int at = start;
            for (int i = 1; i < round && i < STAGES; i++) {
                at = leastNext(at, start, round - i);
                found[i] = at;
            }
        }

        private int leastNext(int at, int start, int stepsToGo) {
            for (int s = start + 1; s < STAGES; s++) {
                if ((pushers[at] & (1 << s)) != 0 && steps[s] == stepsToGo) {
                    return s;
                }
            }
            return start;
        }
    }
}
