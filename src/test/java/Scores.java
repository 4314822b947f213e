/** Scores that several tests play, and what a test asks again and again. */
final class Scores {
    /** Pitches of a scale upwards; no two are the same. */
    static final int[] SCALE = {60, 62, 64, 65, 67, 69, 71, 72};
    /** Stands for an ArithmeticException; no call answers it. */
    static final long THROWN = -99;

    private Scores() {
    }

    /** Notes with these pitches and the starts 0, 10, 20 .. */
    static FollowScore of(int... pitches) {
        FollowScore x = new FollowScore();
        for (int i = 0; i < pitches.length; i++) Check.due("note " + i, x.note(pitches[i], 10 * i), i);
        return x;
    }

    /** The first so many notes of the scale. */
    static FollowScore scale(int notes) {
        int[] pitches = new int[notes];
        System.arraycopy(SCALE, 0, pitches, 0, notes);
        return of(pitches);
    }

    static void costs(FollowScore x, int... costs) {
        for (int i = 0; i < costs.length; i++) x.cost(i, costs[i]);
    }

    static void hear(FollowScore x, int... pitches) {
        for (int pitch : pitches) x.hear(pitch, 100);
    }

    /** All that told() tells. */
    static String told(FollowScore x) {
        StringBuilder text = new StringBuilder();
        for (int what = 0; what <= 8; what++) text.append(x.told(what)).append(' ');
        return text.toString().trim();
    }

    /** The VALUES of -1 and the first so many notes. */
    static String values(FollowScore x, int notes) {
        StringBuilder text = new StringBuilder();
        for (int place = -1; place < notes; place++) text.append(x.valueOf(place)).append(' ');
        return text.toString().trim();
    }

    /** THE BEST: kind, place, event and cost of each STEP. */
    static String course(FollowScore x) {
        StringBuilder text = new StringBuilder();
        for (int k = 0; k < x.steps(); k++) {
            if (k > 0) text.append(" | ");
            for (int what = 0; what <= 3; what++) {
                if (what > 0) text.append(' ');
                text.append(x.step(k, what));
            }
        }
        return text.toString();
    }

    /** What mean() answers, or THROWN for its ArithmeticException. */
    static long mean(FollowScore x, int side) {
        try {
            return x.mean(side);
        } catch (ArithmeticException e) {
            return THROWN;
        }
    }

    static String meanOf(FollowScore x) {
        return mean(x, 0) + "/" + mean(x, 1);
    }

    static String tempo(FollowScore x) {
        return x.tempo(0) + "/" + x.tempo(1);
    }

    /** As many notes as there may be: note i has the pitch i and the start i. */
    static FollowScore sixty() {
        FollowScore x = new FollowScore();
        for (int i = 0; i < 60; i++) x.note(i, i);
        return x;
    }

    /** So many EVENTS with one pitch at one time. */
    static void hearOften(FollowScore x, int count, int pitch, int time) {
        for (int i = 0; i < count; i++) x.hear(pitch, time);
    }

    /** How often a note was played, with its PITCH, passed. */
    static String grades(FollowScore x, int note) {
        return x.grade(note, 0) + " " + x.grade(note, 1) + " " + x.grade(note, 2);
    }

    /** BOX and DUE of a note. */
    static String box(FollowScore x, int note) {
        return x.of(note, 2) + " " + x.of(note, 3);
    }

    static String dueNotes(FollowScore x) {
        StringBuilder text = new StringBuilder();
        for (int k = 0; k < 61 && x.due(k) >= 0; k++) text.append(x.due(k)).append(' ');
        return text.toString().trim();
    }
}
