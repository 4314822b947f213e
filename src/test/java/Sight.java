import java.util.TreeSet;

/**
 * All that an object answers, told as one text: first what it tells as it stands, then what it tells
 * on its way through the rest of the session and into the next one, where WAYS and COSTS show too.
 * It takes some 230 calls, so that an object that is full (some 200 calls) stays below the 512.
 */
final class Sight {
    private static final int END = 3;
    private final FollowScore x;
    private final StringBuilder text = new StringBuilder();
    private final TreeSet<Integer> notes = new TreeSet<>();

    private Sight(FollowScore x) {
        this.x = x;
        addNear(notes, x.told(0), END);
    }

    static String of(FollowScore x) {
        Sight sight = new Sight(x);
        sight.asItStands();
        sight.goingOn();
        sight.inTheNextSession();
        return sight.text.toString();
    }

    /** The first few numbers and the last few ones below a count. */
    private static void addNear(TreeSet<Integer> numbers, int count, int end) {
        for (int i = 0; i < end; i++) {
            if (i < count) numbers.add(i);
            if (count - 1 - i >= 0) numbers.add(count - 1 - i);
        }
    }

    private void add(String what) {
        text.append("\n  ").append(what).append(':');
    }

    private void add(long answer) {
        text.append(' ').append(answer);
    }

    private void asItStands() {
        following();
        best();
        boxes();
        add("pitches and starts");
        for (int note : notes) {
            add(x.of(note, 0));
            add(x.of(note, 1));
        }
    }

    private void following() {
        add("told");
        for (int what = 0; what <= 8; what++) add(x.told(what));
        add("values");
        add(x.valueOf(-1));
        for (int note : notes) add(x.valueOf(note));
        add("tempo, ahead");
        add(x.tempo(0));
        add(x.tempo(1));
        for (int note : notes) add(x.ahead(note));
    }

    private void best() {
        int count = x.steps();
        add("steps");
        add(count);
        TreeSet<Integer> steps = new TreeSet<>();
        addNear(steps, count, 4);
        for (int k : steps) {
            for (int what = 0; what <= 3; what++) add(x.step(k, what));
        }
        add("matched");
        TreeSet<Integer> events = new TreeSet<>();
        addNear(events, x.told(2), 4);
        for (int event : events) add(x.matched(event));
        add("grades");
        for (int note : notes) {
            for (int what = 0; what <= 2; what++) add(x.grade(note, what));
        }
        add("mean");
        add(Scores.mean(x, 0));
        add(Scores.mean(x, 1));
    }

    private void boxes() {
        add("boxes");
        for (int note : notes) {
            add(x.of(note, 2));
            add(x.of(note, 3));
        }
        add("due");
        for (int k = 0; k < 7; k++) add(x.due(k));
    }

    private void goingOn() {
        add("one more, then the end");
        add(x.hear(62, 10000000));
        following();
        add(x.align());
        add(x.end());
        boxes();
    }

    /** If the session could not end, there are still EVENTS, and cut() takes them away. */
    private void inTheNextSession() {
        add("the score");
        add(x.cut(0));
        for (int which = 0; which <= 4; which++) add(x.cost(which, 7));
        add(x.span(5));
        add(x.loop(-1, 0));
        for (int from : notes) {
            for (int to : notes) add(x.way(from, to));
        }
        add(x.note(9, 1000000));
    }
}
