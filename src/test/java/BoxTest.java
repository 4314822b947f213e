/** Promises 19 to 22: end, due, of, told. */
public final class BoxTest {
    private static final int RANGE = -2, STATE = -3;
    private static final int LEAST = Integer.MIN_VALUE, MOST = Integer.MAX_VALUE;

    public static void main(String[] args) {
        boxesRise();
        boxesFall();
        onceRightOnceNot();
        endStartsAnew();
        endRefusals();
        dueOrder();
        ofAndTold();
        Check.finish();
    }

    private static int endSession(FollowScore x, int... pitches) {
        Scores.hear(x, pitches);
        x.align();
        return x.end();
    }

    private static void boxesRise() {
        FollowScore x = Scores.scale(3);
        Check.due("at first", Scores.box(x, 0), "0 0");
        Check.due("all are DUE at first", Scores.dueNotes(x), "0 1 2");
        String[] boxes = {"1 2", "2 5", "3 10", "4 19", "5 36", "5 37", "5 38"};
        for (int session = 0; session < boxes.length; session++) {
            Check.due("the session", x.told(4), session);
            Check.due("end() of session " + session, endSession(x, 60), 2);
            Check.due("behind session " + session, Scores.box(x, 0), boxes[session]);
            Check.due("not played", Scores.box(x, 1), "0 0");
            Check.due("DUE then", Scores.dueNotes(x), "1 2");
        }
        for (int session = 7; session < 38; session++) {
            Check.due("end() of session " + session, endSession(x, 1), session < 37 ? 2 : 3);
        }
        Check.due("DUE from 38 on, in session 38", Scores.dueNotes(x), "1 2 0");
    }

    private static void boxesFall() {
        FollowScore x = Scores.scale(3);
        Scores.costs(x, 1000, 1000, 2, 1, 1000);
        Check.due("all right", endSession(x, 60, 62, 64), 0);
        Check.due("note 1", Scores.box(x, 1), "1 2");
        Check.due("note 1 is passed", endSession(x, 60, 64), 1);
        Check.due("note 0", Scores.box(x, 0), "2 5");
        Check.due("note 1", Scores.box(x, 1), "0 2");
        Check.due("note 2", Scores.box(x, 2), "2 5");
        Scores.costs(x, 1, 1000, 2, 1, 1000);
        Check.due("note 0 is wrong", endSession(x, 61), 2);
        Check.due("note 0", Scores.box(x, 0), "0 3");
        Check.due("note 1 stays", Scores.box(x, 1), "0 2");
        Check.due("note 2 stays", Scores.box(x, 2), "2 5");
        Check.due("DUE", Scores.dueNotes(x), "0 1");
    }

    private static void onceRightOnceNot() {
        FollowScore x = Scores.scale(3);
        Scores.costs(x, 1, 1000, 1000, 1, 1000);
        x.loop(0, 2);
        Check.due("note 1 is right, then wrong", endSession(x, 60, 62, 64, 60, 1, 64), 1);
        Check.due("note 0", Scores.box(x, 0), "1 2");
        Check.due("note 1", Scores.box(x, 1), "0 1");
        Scores.costs(x, 1000, 1000, 1, 1, 1000);
        Check.due("note 1 is right, then passed", endSession(x, 60, 62, 64, 60, 64), 1);
        Check.due("note 0", Scores.box(x, 0), "2 5");
        Check.due("note 1", Scores.box(x, 1), "0 2");
        FollowScore y = Scores.scale(3);
        y.cost(4, 0);
        Check.due("a LEAP counts", endSession(y, 64), 2);
        Check.due("note 2", Scores.box(y, 2), "1 2");
        Check.due("note 0", Scores.box(y, 0), "0 0");
    }

    private static void endStartsAnew() {
        FollowScore x = Scores.scale(4);
        x.way(3, 0);
        x.span(5);
        x.cost(4, 9);
        x.loop(0, 2);
        x.hear(60, 500);
        x.hear(62, 600);
        x.align();
        Check.due("end()", x.end(), 2);
        Check.due("told", Scores.told(x), "4 1 0 -1 1 0 0 2 5");
        Check.due("values", Scores.values(x, 4), "0 -1 -1 -1 -1");
        Check.due("tempo", x.tempo(0) + "/" + x.tempo(1), "1/1");
        Check.due("COSTS stay", x.cost(4, 9), 9);
        Check.due("TIME starts anew", x.hear(60, 0), 0);
        Check.due("values", Scores.values(x, 4), "2 0 5 7 -1");
    }

    private static void endRefusals() {
        FollowScore x = Scores.scale(2);
        Check.due("never aligned", x.end(), STATE);
        x.align();
        Check.due("no EVENTS", x.end(), STATE);
        Check.due("still known", x.steps(), 0);
        x.hear(60, 0);
        Check.due("not aligned", x.end(), STATE);
        x.align();
        x.hear(62, 0);
        Check.due("not aligned since", x.end(), STATE);
        Check.due("told", Scores.told(x), "2 0 2 1 0 2 -1 -1 8");
        Check.due("note 0", Scores.box(x, 0), "0 0");
        x.align();
        Check.due("end()", x.end(), 0);
        Check.due("twice", x.end(), STATE);
        Check.due("the session", x.told(4), 1);
    }

    private static void dueOrder() {
        FollowScore x = Scores.scale(4);
        Scores.costs(x, 1, 1000, 1000, 1, 0);
        Check.due("none is DUE", endSession(x, 60, 62, 64, 65), 0);
        Check.due("due(0)", x.due(0), -1);
        Check.due("note 0, 2, 3 are", endSession(x, 62), 3);
        Check.due("DUE", Scores.dueNotes(x), "0 2 3");
        x.loop(3, 3);
        Check.due("note 3 is wrong", endSession(x, 1), 3);
        Check.due("BOXES first", Scores.dueNotes(x), "3 0 2");
        Check.due("due(3)", x.due(3), -1);
        Check.due("due most", x.due(MOST), -1);
        Check.due("due(-1)", x.due(-1), RANGE);
        Check.due("due least", x.due(LEAST), RANGE);
        x.hear(65, 0);
        Check.due("while EVENTS are heard", Scores.dueNotes(x), "3 0 2");
        Check.due("no notes", new FollowScore().due(0), -1);
    }

    private static void ofAndTold() {
        FollowScore x = Scores.scale(3);
        Check.due("of(2, 0)", x.of(2, 0), 64);
        Check.due("of(2, 1)", x.of(2, 1), 20);
        Check.due("of(2, 2)", x.of(2, 2), 0);
        Check.due("of(2, 3)", x.of(2, 3), 0);
        Check.due("of(2, 4)", x.of(2, 4), RANGE);
        Check.due("of(2, -1)", x.of(2, -1), RANGE);
        Check.due("of(3, 0)", x.of(3, 0), RANGE);
        Check.due("of(-1, 0)", x.of(-1, 0), RANGE);
        Check.due("of least", x.of(LEAST, MOST), RANGE);
        Check.due("told(-1)", x.told(-1), RANGE);
        Check.due("told(9)", x.told(9), RANGE);
        Check.due("told least", x.told(LEAST), RANGE);
        Check.due("told most", x.told(MOST), RANGE);
        x.way(2, 0);
        x.loop(0, 1);
        x.span(4);
        Scores.hear(x, 60, 62);
        Check.due("told", Scores.told(x), "3 1 2 1 0 2 0 1 4");
        x.align();
        x.end();
        Check.due("told", Scores.told(x), "3 1 0 -1 1 0 0 1 4");
        Check.due("of(0, 2)", x.of(0, 2), 1);
        Check.due("of(0, 3)", x.of(0, 3), 2);
    }
}
