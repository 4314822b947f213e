import java.util.ArrayList;
import java.util.List;

/**
 * The document's COURSES and VALUES by its words alone: every COURSE up to the least SUM is walked, STEP
 * by STEP, in the order that decides among equals; nothing is weighed beforehand. For small scores only.
 */
final class Courses {
    private static final int NONE = -1;

    private final int[] pitches;
    private final List<int[]> ways = new ArrayList<>();
    private final int[] costs;
    private int first;
    private int last;
    private boolean loop = false;

    private int[] events;
    private int most;
    private final List<String> steps = new ArrayList<>();

    private int[] come;

    Courses(int[] pitches, int[] costs) {
        this.pitches = pitches;
        this.costs = costs;
        first = 0;
        last = pitches.length - 1;
    }

    void way(int from, int to) {
        ways.add(new int[] {from, to});
    }

    void loop(int from, int to) {
        loop = true;
        first = from;
        last = to;
    }

    private boolean isThere(int note) {
        return note >= first && note <= last;
    }

    /** NEXT of a place in the document's order: note and PRICE. */
    private List<int[]> nextsOf(int place) {
        List<int[]> nexts = new ArrayList<>();
        int behind = place == NONE && loop ? first : place + 1;
        if (isThere(behind)) nexts.add(new int[] {behind, 0});
        if (loop && place == last) nexts.add(new int[] {first, 0});
        for (int[] way : ways) {
            if (way[0] == place && isThere(way[0]) && isThere(way[1])) nexts.add(new int[] {way[1], costs[3]});
        }
        return nexts;
    }

    private int wrong(int note, int pitch) {
        return pitches[note] == pitch ? 0 : costs[0];
    }

    // ---- THE BEST

    /** SUM and STEPS of THE BEST: SUMS are tried from 0 on, and the first COURSE that is found has it. */
    String best(int... heard) {
        events = heard;
        for (most = 0; most <= heard.length * costs[1]; most++) {
            steps.clear();
            if (goesOn(NONE, 0, 0)) return most + ": " + String.join(" | ", steps);
        }
        throw new IllegalStateException("nothing but EXTRA is a COURSE, too");
    }

    private boolean goesOn(int place, int event, int sum) {
        if (event == events.length) return sum == most;
        for (int[] next : nextsOf(place)) {
            if (leads(0, next[0], event, next[1] + wrong(next[0], events[event]), sum)) return true;
        }
        if (leads(1, place, event, costs[1], sum)) return true;
        for (int[] next : nextsOf(place)) {
            if (leads(2, next[0], event, next[1] + costs[2], sum)) return true;
        }
        for (int note = first; note <= last; note++) {
            if (leads(3, note, event, costs[4] + wrong(note, events[event]), sum)) return true;
        }
        return false;
    }

    private boolean leads(int kind, int to, int event, int cost, int sum) {
        if (sum + cost > most) return false;
        steps.add(kind + " " + to + " " + (kind == 2 ? NONE : event) + " " + cost);
        if (goesOn(to, kind == 2 ? event : event + 1, sum + cost)) return true;
        steps.remove(steps.size() - 1);
        return false;
    }

    // ---- FOLLOWING

    /** THE PLACE behind each EVENT, and the VALUES of -1 and all notes then. */
    List<String> following(int span, int... heard) {
        int[] values = new int[pitches.length + 1];
        java.util.Arrays.fill(values, 1, values.length, NONE);
        int place = NONE;
        List<String> told = new ArrayList<>();
        for (int pitch : heard) {
            come = new int[values.length];
            java.util.Arrays.fill(come, NONE);
            for (int from = NONE; from < pitches.length; from++) {
                if (values[from + 1] != NONE) comesFrom(from, values[from + 1], pitch, new boolean[values.length]);
            }
            values = come;
            place = nearest(values, place + 1);
            for (int p = NONE; p < pitches.length; p++) {
                if (Math.abs(p - place) > span) values[p + 1] = NONE;
            }
            told.add(place + ":" + text(values));
        }
        return told;
    }

    /** To pass a place twice costs, and leads to nothing else. */
    private void comesFrom(int place, int sum, int pitch, boolean[] passed) {
        passed[place + 1] = true;
        comesTo(place, sum + costs[1]);
        for (int[] next : nextsOf(place)) comesTo(next[0], sum + next[1] + wrong(next[0], pitch));
        for (int note = first; note <= last; note++) comesTo(note, sum + costs[4] + wrong(note, pitch));
        for (int[] next : nextsOf(place)) {
            if (!passed[next[0] + 1]) comesFrom(next[0], sum + next[1] + costs[2], pitch, passed);
        }
        passed[place + 1] = false;
    }

    private void comesTo(int place, int sum) {
        if (come[place + 1] == NONE || sum < come[place + 1]) come[place + 1] = sum;
    }

    /** Of the places with the least VALUE the nearest; they are looked at upwards, the lesser first. */
    private static int nearest(int[] values, int expected) {
        int least = Integer.MAX_VALUE;
        for (int value : values) {
            if (value != NONE) least = Math.min(least, value);
        }
        int found = Integer.MAX_VALUE;
        for (int i = 0; i < values.length; i++) {
            boolean isFirst = found == Integer.MAX_VALUE;
            if (values[i] == least && (isFirst || Math.abs(i - 1 - expected) < Math.abs(found - expected))) found = i - 1;
        }
        return found;
    }

    private static String text(int[] values) {
        StringBuilder text = new StringBuilder();
        for (int value : values) text.append(' ').append(value);
        return text.toString();
    }
}
