import java.util.ArrayList;
import java.util.List;
import java.util.TreeSet;

/**
 * The document's words again, in other ways than the class's: the session is heard anew for each
 * question, PASSES come from a table of all pairs, and THE BEST from labels that carry whole COURSES.
 */
final class Model {
    static final int NONE = -1, RANGE = -2, STATE = -3, FULL = -4;
    private static final int FAR = 100000000;

    /** A STEP of a COURSE; rank is its place among those of its kind. */
    record Step(int kind, int rank, int to, int event, int cost) {
    }

    private record Way(int from, int to) {
    }

    private record Next(int note, int price) {
    }

    /** A COURSE so far, ordered as the document orders COURSES. */
    private record Label(int sum, List<Step> steps, int event, int place) implements Comparable<Label> {
        @Override
        public int compareTo(Label other) {
            if (sum != other.sum) return Integer.compare(sum, other.sum);
            for (int i = 0; i < steps.size() && i < other.steps.size(); i++) {
                Step a = steps.get(i);
                Step b = other.steps.get(i);
                if (a.kind != b.kind) return Integer.compare(a.kind, b.kind);
                if (a.rank != b.rank) return Integer.compare(a.rank, b.rank);
            }
            if (steps.size() != other.steps.size()) return Integer.compare(steps.size(), other.steps.size());
            if (event != other.event) return Integer.compare(event, other.event);
            return Integer.compare(place, other.place);
        }
    }

    private final List<int[]> notes = new ArrayList<>();
    private final List<Way> ways = new ArrayList<>();
    private final List<int[]> events = new ArrayList<>();
    private int[] loop = null;
    private int[] costs = {3, 2, 2, 1, 6};
    private int span = 8;
    private int session = 0;
    private List<Step> best = null;

    // what hearing all EVENTS leads to
    private int[] values;
    private int place;
    private List<int[]> anchors;
    private boolean heard = false;

    void clear() {
        notes.clear();
        ways.clear();
        events.clear();
        loop = null;
        costs = new int[] {3, 2, 2, 1, 6};
        span = 8;
        session = 0;
        best = null;
        heard = false;
    }

    // ---- the score

    private boolean isNote(int n) {
        return 0 <= n && n < notes.size();
    }

    private static boolean in(int v, int least, int most) {
        return least <= v && v <= most;
    }

    int note(int pitch, int start) {
        boolean late = notes.isEmpty() || start > notes.get(notes.size() - 1)[1];
        if (!in(pitch, 0, 127) || !in(start, 0, 1000000) || !late) return RANGE;
        if (!events.isEmpty() || loop != null) return STATE;
        if (notes.size() == 60) return FULL;
        notes.add(new int[] {pitch, start, 0, 0});
        heard = false;
        return notes.size() - 1;
    }

    int way(int from, int to) {
        if (!isNote(from) || !isNote(to) || to == from + 1 || ways.contains(new Way(from, to))) return RANGE;
        if (!events.isEmpty()) return STATE;
        if (ways.size() == 12) return FULL;
        ways.add(new Way(from, to));
        return ways.size() - 1;
    }

    int loop(int from, int to) {
        if (from != NONE && !(isNote(from) && isNote(to) && from <= to)) return RANGE;
        if (!events.isEmpty()) return STATE;
        int was = loop == null ? 0 : 1;
        loop = from == NONE ? null : new int[] {from, to};
        return was;
    }

    int cost(int which, int v) {
        if (!in(which, 0, 4) || !in(v, 0, 1000)) return RANGE;
        if (v == 0 && (which == 1 || which == 2)) return RANGE;
        if (!events.isEmpty()) return STATE;
        int was = costs[which];
        costs[which] = v;
        return was;
    }

    int span(int s) {
        if (!in(s, 0, 100)) return RANGE;
        if (!events.isEmpty()) return STATE;
        int was = span;
        span = s;
        return was;
    }

    private boolean isThere(int n) {
        return isNote(n) && (loop == null || in(n, loop[0], loop[1]));
    }

    private List<Next> nexts(int p) {
        List<Next> all = new ArrayList<>();
        if (p == NONE) {
            all.add(new Next(loop == null ? 0 : loop[0], 0));
            return all;
        }
        if (!isThere(p)) return all;
        if (isThere(p + 1)) all.add(new Next(p + 1, 0));
        if (loop != null && p == loop[1]) all.add(new Next(loop[0], 0));
        for (Way way : ways) {
            if (way.from == p && isThere(way.to)) all.add(new Next(way.to, costs[3]));
        }
        return all;
    }

    private int wrong(int note, int event) {
        return notes.get(note)[0] == events.get(event)[0] ? 0 : costs[0];
    }

    // ---- a session

    int hear(int pitch, int time) {
        boolean late = events.isEmpty() || time >= events.get(events.size() - 1)[1];
        if (!in(pitch, 0, 127) || !in(time, 0, 10000000) || !late) return RANGE;
        if (notes.isEmpty()) return STATE;
        if (events.size() == 120) return FULL;
        events.add(new int[] {pitch, time});
        best = null;
        if (heard) hearOne(events.size() - 1, allPasses());
        return told(3);
    }

    int cut(int n) {
        if (!in(n, 0, events.size())) return RANGE;
        while (events.size() > n) events.remove(events.size() - 1);
        best = null;
        heard = false;
        return told(3);
    }

    private void hearAll() {
        if (heard) return;
        heard = true;
        values = new int[notes.size() + 1];
        for (int i = 1; i < values.length; i++) values[i] = FAR;
        place = NONE;
        anchors = new ArrayList<>();
        int[][] passes = events.isEmpty() ? null : allPasses();
        for (int e = 0; e < events.size(); e++) hearOne(e, passes);
    }

    /** What PASSES from one place to another cost at least, for all pairs. */
    private int[][] allPasses() {
        int size = notes.size() + 1;
        int[][] table = new int[size][size];
        for (int a = 0; a < size; a++) {
            for (int b = 0; b < size; b++) table[a][b] = a == b ? 0 : FAR;
            for (Next next : nexts(a - 1)) {
                int to = next.note + 1;
                table[a][to] = Math.min(table[a][to], next.price + costs[2]);
            }
        }
        for (int m = 0; m < size; m++) {
            for (int a = 0; a < size; a++) {
                for (int b = 0; b < size; b++) table[a][b] = Math.min(table[a][b], table[a][m] + table[m][b]);
            }
        }
        return table;
    }

    private void hearOne(int e, int[][] passes) {
        int size = notes.size() + 1;
        int[] now = new int[size];
        java.util.Arrays.fill(now, FAR);
        for (int a = 0; a < size; a++) {
            if (values[a] >= FAR) continue;
            for (int b = 0; b < size; b++) {
                if (passes[a][b] >= FAR) continue;
                int sum = values[a] + passes[a][b];
                now[b] = Math.min(now[b], sum + costs[1]);
                for (Next next : nexts(b - 1)) {
                    now[next.note + 1] = Math.min(now[next.note + 1], sum + next.price + wrong(next.note, e));
                }
                for (int n = 0; n < notes.size(); n++) {
                    if (isThere(n)) now[n + 1] = Math.min(now[n + 1], sum + costs[4] + wrong(n, e));
                }
            }
        }
        values = now;
        int least = FAR;
        for (int value : values) least = Math.min(least, value);
        int near = place + 1;
        for (int distance = 0; distance <= 200; distance++) {
            int below = near - distance;
            int above = near + distance;
            if (below >= -1 && below < size - 1 && values[below + 1] == least) {
                place = below;
                break;
            }
            if (above < size - 1 && values[above + 1] == least) {
                place = above;
                break;
            }
        }
        for (int p = -1; p < size - 1; p++) {
            if (p < place - span || p > place + span) values[p + 1] = FAR;
        }
        if (place == NONE || notes.get(place)[0] != events.get(e)[0]) return;
        if (!anchors.isEmpty() && anchors.get(anchors.size() - 1)[0] >= place) anchors.clear();
        anchors.add(new int[] {place, notes.get(place)[1], events.get(e)[1]});
    }

    int valueOf(int p) {
        if (p != NONE && !isNote(p)) return RANGE;
        hearAll();
        return values[p + 1] >= FAR ? NONE : values[p + 1];
    }

    private long[] fraction() {
        hearAll();
        int size = anchors.size();
        if (size < 2) return new long[] {1, 1};
        int[] last = anchors.get(size - 1);
        int[] first = size <= 4 ? anchors.get(0) : anchors.get(size - 4);
        return lowest(last[2] - first[2], last[1] - first[1]);
    }

    private static long[] lowest(int upper, int lower) {
        long divisor = java.math.BigInteger.valueOf(upper).gcd(java.math.BigInteger.valueOf(lower)).longValue();
        return new long[] {upper / divisor, lower / divisor};
    }

    int tempo(int side) {
        return in(side, 0, 1) ? (int) fraction()[side] : RANGE;
    }

    long ahead(int note) {
        if (!isNote(note)) return RANGE;
        hearAll();
        if (anchors.isEmpty()) return STATE;
        int[] last = anchors.get(anchors.size() - 1);
        long[] tempo = fraction();
        long times = (notes.get(note)[1] - last[1]) * tempo[0];
        long whole = times / tempo[1];
        if (whole * tempo[1] > times) whole--;
        return last[2] + whole;
    }

    // ---- the best of all

    int align() {
        if (notes.isEmpty()) return STATE;
        if (best == null) best = findBest();
        int sum = 0;
        for (Step step : best) sum += step.cost;
        return sum;
    }

    private List<Step> findBest() {
        TreeSet<Label> open = new TreeSet<>();
        boolean[][] done = new boolean[events.size() + 1][notes.size() + 1];
        open.add(new Label(0, List.of(), 0, NONE));
        while (true) {
            Label label = open.pollFirst();
            if (label.event == events.size()) return label.steps;
            if (done[label.event][label.place + 1]) continue;
            done[label.event][label.place + 1] = true;
            spread(label, open);
        }
    }

    private void spread(Label label, TreeSet<Label> open) {
        int e = label.event;
        int rank = 0;
        for (Next next : nexts(label.place)) {
            open.add(longer(label, new Step(0, rank, next.note, e, next.price + wrong(next.note, e))));
            open.add(longer(label, new Step(2, rank, next.note, NONE, next.price + costs[2])));
            rank++;
        }
        open.add(longer(label, new Step(1, 0, label.place, e, costs[1])));
        for (int n = 0; n < notes.size(); n++) {
            if (isThere(n)) open.add(longer(label, new Step(3, n, n, e, costs[4] + wrong(n, e))));
        }
    }

    private static Label longer(Label label, Step step) {
        List<Step> steps = new ArrayList<>(label.steps);
        steps.add(step);
        return new Label(label.sum + step.cost, steps, label.event + (step.kind == 2 ? 0 : 1), step.to);
    }

    int step(int k, int what) {
        if (!in(what, 0, 3) || k < 0) return RANGE;
        if (best == null) return STATE;
        if (k >= best.size()) return RANGE;
        Step step = best.get(k);
        return new int[] {step.kind, step.to, step.event, step.cost}[what];
    }

    int steps() {
        return best == null ? STATE : best.size();
    }

    int matched(int event) {
        if (!in(event, 0, events.size() - 1)) return RANGE;
        if (best == null) return STATE;
        for (Step step : best) {
            if (step.event == event) return step.kind == 1 ? NONE : step.to;
        }
        throw new IllegalStateException("an EVENT was not taken");
    }

    int grade(int note, int what) {
        if (!isNote(note) || !in(what, 0, 2)) return RANGE;
        if (best == null) return STATE;
        int count = 0;
        for (Step step : best) {
            if (step.to != note || step.kind == 1) continue;
            boolean passed = step.kind == 2;
            if (what == 2 ? passed : !passed && (what == 0 || notes.get(note)[0] == events.get(step.event)[0])) count++;
        }
        return count;
    }

    int mean(int side) {
        if (!in(side, 0, 1)) return RANGE;
        if (best == null) return STATE;
        int played = 0;
        int right = 0;
        for (int n = 0; n < notes.size(); n++) {
            played += grade(n, 0);
            right += grade(n, 1);
        }
        if (played == 0) throw new ArithmeticException("no note was played");
        return (int) lowest(right, played)[side];
    }

    int end() {
        if (best == null || events.isEmpty()) return STATE;
        int[] gaps = {1, 2, 4, 8, 16, 32};
        for (int n = 0; n < notes.size(); n++) {
            int[] note = notes.get(n);
            if (grade(n, 0) + grade(n, 2) == 0) continue;
            boolean good = grade(n, 2) == 0 && grade(n, 1) == grade(n, 0);
            note[2] = good ? Math.min(5, note[2] + 1) : 0;
            note[3] = session + gaps[note[2]];
        }
        session++;
        events.clear();
        best = null;
        heard = false;
        return dueNotes().size();
    }

    private List<Integer> dueNotes() {
        List<Integer> all = new ArrayList<>();
        for (int n = 0; n < notes.size(); n++) {
            if (notes.get(n)[3] <= session) all.add(n);
        }
        all.sort((a, b) -> notes.get(a)[2] != notes.get(b)[2] ? notes.get(a)[2] - notes.get(b)[2] : a - b);
        return all;
    }

    int due(int k) {
        if (k < 0) return RANGE;
        List<Integer> all = dueNotes();
        return k < all.size() ? all.get(k) : NONE;
    }

    int of(int note, int what) {
        return isNote(note) && in(what, 0, 3) ? notes.get(note)[what] : RANGE;
    }

    int told(int what) {
        hearAll();
        int first = loop == null ? NONE : loop[0];
        int last = loop == null ? NONE : loop[1];
        int[] all = {notes.size(), ways.size(), events.size(), place, session, anchors.size(), first, last, span};
        return in(what, 0, 8) ? all[what] : RANGE;
    }
}
