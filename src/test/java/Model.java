import java.util.ArrayList;
import java.util.List;

/**
 * The document told a second time, with lists and searches of everything instead of rows that are used
 * again, so that a slip in one of the two shows as a difference.
 */
final class Model {
    static final class Grain {
        int number = -1;
        long grams;
        int grade;
        int damp;
        long[] parts = new long[4];
    }

    /** A LOT on its way to an OUT; one without a number comes to be when it is put. */
    record Going(int out, Grain grain) { }

    static final class Machine {
        int kind, a, beats;
        List<Integer> ins = new ArrayList<>();
        List<Integer> outs = new ArrayList<>();
        List<Integer> shares = new ArrayList<>();
        int[] rules = new int[3];
        int mending = 5;
        int state, toGo, ended, faults;
        int[] ends = new int[5];
        List<Grain> working = new ArrayList<>();
        List<Going> going = new ArrayList<>();
        long[] left = new long[10];
    }

    final int[] rooms = new int[16];
    final int[] mosts = new int[16];
    final List<List<Grain>> bins = new ArrayList<>();
    final Machine[] machines = new Machine[12];
    final List<Grain> all = new ArrayList<>();
    final List<int[]> planned = new ArrayList<>();
    final List<int[]> asides = new ArrayList<>();
    final long[] sums = new long[5];
    final long[] sacks = new long[10];
    boolean standing, draining;
    int beats;

    Model() {
        for (int b = 0; b < 16; b++) {
            bins.add(new ArrayList<>());
        }
    }

    boolean isBin(int b) {
        return 0 <= b && b <= 15 && rooms[b] > 0;
    }

    boolean isStage(int s) {
        return 0 <= s && s <= 11 && machines[s] != null;
    }

    boolean bin(int b, int room) {
        if (standing || b < 0 || b > 15 || isBin(b) || room < 1 || room > 20) {
            return false;
        }
        rooms[b] = room;
        return true;
    }

    boolean stage(int s, int kind, int a, int beats) {
        if (standing || s < 0 || s > 11 || isStage(s) || kind < 0 || kind > 5 || beats < 1 || beats > 20) {
            return false;
        }
        if (kind == 0 && (a < 0 || a > 900) || kind == 1 && (a < 1 || a > 500)
            || kind == 3 && (a < 0 || a > 9) || kind == 5 && (a < 1 || a > 50000)) {
            return false;
        }
        Machine m = new Machine();
        m.kind = kind;
        m.a = a;
        m.beats = beats;
        machines[s] = m;
        return true;
    }

    int from(int s, int b) {
        if (standing || !isStage(s) || !isBin(b) || machines[s].ins.size() == (machines[s].kind == 4 ? 2 : 1)) {
            return -1;
        }
        machines[s].ins.add(b);
        return machines[s].ins.size();
    }

    int to(int s, int b, int share) {
        if (standing || !isStage(s) || !isBin(b)) {
            return -1;
        }
        Machine m = machines[s];
        int most = new int[] {1, 1, 3, 2, 1, 0}[m.kind];
        if (m.outs.size() == most || m.kind == 2 && (share < 1 || share > 999)) {
            return -1;
        }
        m.outs.add(b);
        m.shares.add(share);
        return m.outs.size();
    }

    int stands() {
        if (standing || count(5) == 0) {
            return -1;
        }
        List<Integer> seen = new ArrayList<>();
        for (int s = 0; s < 12; s++) {
            if (!isStage(s)) {
                continue;
            }
            Machine m = machines[s];
            if (m.ins.size() < (m.kind == 4 ? 2 : 1)) {
                return 100 * s + 1;
            }
            if (m.outs.size() < new int[] {1, 1, 2, 2, 1, 0}[m.kind]) {
                return 100 * s + 2;
            }
            if (m.kind == 2 && m.shares.stream().mapToInt(i -> i).sum() != 1000) {
                return 100 * s + 3;
            }
            for (int b : m.ins) {
                if (seen.contains(b)) {
                    return 100 * s + 4;
                }
                seen.add(b);
            }
        }
        standing = true;
        return 0;
    }

    int feed(int b, int grams, int grade, int damp, int origin) {
        if (!standing || draining || !isBin(b) || grams < 1 || grams > 100000 || grade < 0 || grade > 9
            || damp < 0 || damp > 999 || origin < 0 || origin > 3
            || bins.get(b).size() >= rooms[b] || all.size() == 1500) {
            return -1;
        }
        Grain g = new Grain();
        g.grams = grams;
        g.grade = grade;
        g.damp = damp;
        g.parts[origin] = 1000000;
        number(g);
        bins.get(b).add(g);
        sums[0] += grams;
        return g.number;
    }

    private void number(Grain g) {
        g.number = all.size();
        all.add(g);
    }

    boolean plan(int s, int n, int sort) {
        if (!isStage(s) || n < 1 || n > 1000 || sort < 0 || sort > 2 || n <= machines[s].ended
            || planned.size() == 40) {
            return false;
        }
        for (int[] p : planned) {
            if (p[0] == s && p[1] == n) {
                return false;
            }
        }
        planned.add(new int[] {s, n, sort, 0});
        return true;
    }

    boolean rule(int s, int sort, int way, int mending) {
        if (!isStage(s) || sort < 0 || sort > 2 || way < 0 || way > 2 || mending < 1 || mending > 30) {
            return false;
        }
        machines[s].rules[sort] = way;
        machines[s].mending = mending;
        return true;
    }

    int beat(int n) {
        if (!standing || n < 1 || n > 200 || beats + n > 5000) {
            return -1;
        }
        for (int i = 0; i < n; i++) {
            beats++;
            oneBeat();
        }
        return beats;
    }

    private void oneBeat() {
        for (int s = 11; s >= 0; s--) {
            if (isStage(s)) {
                firstStep(s, machines[s]);
            }
        }
        for (int s = 11; s >= 0; s--) {
            if (isStage(s) && machines[s].state == 2 && fits(machines[s])) {
                put(machines[s]);
            }
        }
        for (int s = 11; s >= 0; s--) {
            if (isStage(s) && machines[s].state == 0 && hasGrain(machines[s])) {
                for (int b : machines[s].ins) {
                    machines[s].working.add(bins.get(b).remove(0));
                }
                machines[s].state = 1;
                machines[s].toGo = machines[s].beats;
            }
        }
        for (Machine m : machines) {
            if (m != null) {
                m.ends[m.state]++;
            }
        }
        for (int b = 0; b < 16; b++) {
            mosts[b] = Math.max(mosts[b], bins.get(b).size());
        }
    }

    private boolean hasGrain(Machine m) {
        return m.ins.stream().noneMatch(b -> bins.get(b).isEmpty());
    }

    private void firstStep(int s, Machine m) {
        if (m.state != 1 && m.state != 3 || --m.toGo > 0) {
            return;
        }
        if (m.state == 3) {
            m.state = 0;
            return;
        }
        m.ended++;
        int[] fault = null;
        for (int[] p : planned) {
            if (p[0] == s && p[1] == m.ended) {
                fault = p;
            }
        }
        if (fault == null) {
            work(m);
            m.working.clear();
            m.state = m.kind == 5 ? 0 : 2;
            return;
        }
        fault[3] = 1;
        m.faults++;
        int way = m.rules[fault[2]];
        if (way == 2) {
            command(0);
        } else if (way == 1 && m.kind < 4) {
            m.going.add(new Going(0, m.working.get(0)));
            m.working.clear();
            m.state = 2;
        } else {
            for (Grain g : m.working) {
                asides.add(new int[] {g.number, s, fault[2], beats, (int) g.grams});
                sums[4] += g.grams;
            }
            m.working.clear();
            m.state = 3;
            m.toGo = m.mending;
        }
    }

    private void work(Machine m) {
        Grain g = m.working.get(0);
        if (m.kind == 0) {
            long waste = g.grams * m.a / 1000;
            g.grams -= waste;
            sums[3] += waste;
        } else if (m.kind == 1 && g.damp < m.a) {
            long water = g.grams * (m.a - g.damp) / (1000 - m.a);
            g.grams += water;
            g.damp = m.a;
            sums[1] += water;
        } else if (m.kind == 2) {
            roll(m, g);
            return;
        } else if (m.kind == 4) {
            blend(g, m.working.get(1));
        } else if (m.kind == 5) {
            m.left[g.grade] += g.grams;
            while (m.left[g.grade] >= m.a) {
                m.left[g.grade] -= m.a;
                sacks[g.grade]++;
                sums[2] += m.a;
            }
            return;
        }
        m.going.add(new Going(m.kind == 3 && g.grade > m.a ? 1 : 0, g));
    }

    private void roll(Machine m, Grain g) {
        long whole = g.grams;
        m.going.add(new Going(0, g));
        for (int i = 1; i < m.outs.size(); i++) {
            Grain piece = new Grain();
            piece.grams = whole * m.shares.get(i) / 1000;
            piece.grade = Math.min(9, g.grade + i);
            piece.damp = g.damp;
            piece.parts = g.parts.clone();
            g.grams -= piece.grams;
            if (piece.grams > 0) {
                m.going.add(new Going(i, piece));
            }
        }
    }

    private static void blend(Grain g, Grain h) {
        long both = g.grams + h.grams;
        long lack = 1000000;
        for (int o = 0; o < 4; o++) {
            g.parts[o] = (g.parts[o] * g.grams + h.parts[o] * h.grams) / both;
            lack -= g.parts[o];
        }
        int top = 3;
        for (int o = 2; o >= 0; o--) {
            top = g.parts[o] >= g.parts[top] ? o : top;
        }
        g.parts[top] += lack;
        g.grade = near(g.grade * g.grams + h.grade * h.grams, both);
        g.damp = near(g.damp * g.grams + h.damp * h.grams, both);
        g.grams = both;
    }

    private static int near(long sum, long by) {
        return new java.math.BigDecimal(sum).setScale(30)
            .divide(new java.math.BigDecimal(by), 30, java.math.RoundingMode.HALF_EVEN)
            .setScale(0, java.math.RoundingMode.HALF_EVEN).intValue();
    }

    private boolean fits(Machine m) {
        int fresh = 0;
        for (Going x : m.going) {
            fresh += x.grain().number < 0 ? 1 : 0;
            if (isFull(m, m.outs.get(x.out()))) {
                return false;
            }
        }
        return all.size() + fresh <= 1500;
    }

    private boolean isFull(Machine m, int b) {
        long more = m.going.stream().filter(x -> m.outs.get(x.out()) == b).count();
        return bins.get(b).size() + more > rooms[b];
    }

    private void put(Machine m) {
        for (Going x : m.going) {
            if (x.grain().number < 0) {
                number(x.grain());
            }
            bins.get(m.outs.get(x.out())).add(x.grain());
        }
        m.going.clear();
        m.state = 0;
    }

    boolean command(int what) {
        if (!standing || what < 0 || what > 2) {
            return false;
        }
        if (what == 2) {
            draining = true;
            return true;
        }
        for (Machine m : machines) {
            if (m == null) {
                continue;
            }
            if (what == 0) {
                for (int i = 0; i < m.working.size(); i++) {
                    bins.get(m.ins.get(i)).add(0, m.working.get(i));
                }
                m.working.clear();
                m.state = 4;
            } else if (m.state == 4) {
                m.state = m.going.isEmpty() ? 0 : 2;
            }
        }
        draining = what != 1 && draining;
        return true;
    }

    boolean divert(int s, int i, int b) {
        if (!standing || !isStage(s) || !isBin(b) || i < 0 || i >= machines[s].outs.size()) {
            return false;
        }
        machines[s].outs.set(i, b);
        return true;
    }

    private long has(Machine m) {
        long sum = 0;
        for (Grain g : m.working) {
            sum += g.grams;
        }
        for (Going x : m.going) {
            sum += x.grain().grams;
        }
        for (long l : m.left) {
            sum += l;
        }
        return sum;
    }

    int state(int s, int what) {
        if (!isStage(s) || what < 0 || what > 9) {
            return -1;
        }
        Machine m = machines[s];
        int first = !m.working.isEmpty() ? m.working.get(0).number
            : !m.going.isEmpty() ? m.going.get(0).grain().number : -1;
        int toGo = m.state == 1 || m.state == 3 ? m.toGo : 0;
        return new int[] {m.state, toGo, m.ended, m.ends[0], m.ends[2], m.ends[3], first, m.faults, (int) has(m),
            m.outs.isEmpty() ? -1 : m.outs.get(0)}[what];
    }

    int in(int b, int i, int what) {
        if (!isBin(b) || i < 0 || i >= bins.get(b).size() || what < 0 || what > 3) {
            return -1;
        }
        Grain g = bins.get(b).get(i);
        return new int[] {g.number, (int) g.grams, g.grade, g.damp}[what];
    }

    private long gramsIn(int b) {
        return bins.get(b).stream().mapToLong(g -> g.grams).sum();
    }

    int level(int b, int what) {
        if (!isBin(b) || what < 0 || what > 3) {
            return -1;
        }
        return new int[] {bins.get(b).size(), mosts[b], rooms[b], (int) gramsIn(b)}[what];
    }

    int part(int lot, int origin) {
        return lot < 0 || lot >= all.size() || origin < 0 || origin > 3 ? -1 : (int) all.get(lot).parts[origin];
    }

    int sacks(int grade) {
        return grade < 0 || grade > 9 ? -1 : (int) sacks[grade];
    }

    int aside(int i, int what) {
        return i < 0 || i >= asides.size() || what < 0 || what > 4 ? -1 : asides.get(i)[what];
    }

    long total(int what) {
        if (what < 0 || what > 6) {
            return -1;
        }
        long sum = what < 5 ? sums[what] : 0;
        for (int b = 0; what == 5 && b < 16; b++) {
            sum += gramsIn(b);
        }
        for (int s = 0; what == 6 && s < 12; s++) {
            sum += isStage(s) ? has(machines[s]) : 0;
        }
        return sum;
    }

    int quiet() {
        if (!standing) {
            return -1;
        }
        for (Machine m : machines) {
            if (m != null && (m.state == 1 || m.state == 3 || m.state == 0 && hasGrain(m)
                || m.state == 2 && fits(m))) {
                return 0;
            }
        }
        return 1;
    }

    /** All rounds are walked, the short ones first, from each STAGE on, the lowest next one first. */
    int ring(int i) {
        for (int length = 1; length <= 12; length++) {
            for (int s = 0; s < 12; s++) {
                List<Integer> round = new ArrayList<>(List.of(s));
                if (walk(round, length)) {
                    return i < 0 || i >= length ? -1 : round.get(i);
                }
            }
        }
        return -1;
    }

    private boolean walk(List<Integer> round, int length) {
        int last = round.get(round.size() - 1);
        if (round.size() == length) {
            return pushes(last, round.get(0));
        }
        for (int s = round.get(0) + 1; s < 12; s++) {
            if (!round.contains(s) && pushes(last, s)) {
                round.add(s);
                if (walk(round, length)) {
                    return true;
                }
                round.remove(round.size() - 1);
            }
        }
        return false;
    }

    private boolean pushes(int s, int next) {
        if (!isStage(s) || !isStage(next) || machines[s].state != 2 || machines[next].state != 2) {
            return false;
        }
        for (Going x : machines[s].going) {
            int b = machines[s].outs.get(x.out());
            if (isFull(machines[s], b) && machines[next].ins.contains(b)) {
                return true;
            }
        }
        return false;
    }

    int count(int what) {
        int told = 0;
        for (Machine m : machines) {
            told += m == null ? 0 : 1;
        }
        int toCome = 0;
        for (int[] p : planned) {
            toCome += 1 - p[3];
        }
        return what < 0 || what > 6 ? -1 : new int[] {beats, all.size(), standing ? 1 : 0, draining ? 1 : 0,
            asides.size(), told, toCome}[what];
    }
}
