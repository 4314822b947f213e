/** Promises 13 to 18: align, step, steps, matched, grade, mean. */
public final class BestTest {
    private static final int RANGE = -2, STATE = -3;
    private static final int LEAST = Integer.MIN_VALUE, MOST = Integer.MAX_VALUE;

    public static void main(String[] args) {
        withoutEvents();
        kinds();
        tiesOfKinds();
        tiesOfNexts();
        tiesOfPasses();
        tiesOfLeaps();
        inLoop();
        manySteps();
        fullScore();
        spanIsNoMatter();
        refusals();
        matchedAndGrade();
        mean();
        Check.finish();
    }

    private static void withoutEvents() {
        FollowScore x = new FollowScore();
        Check.due("no notes", x.align(), STATE);
        x.note(60, 0);
        Check.due("never called", x.steps(), STATE);
        Check.due("no EVENTS", x.align(), 0);
        Check.due("no STEPS", x.steps(), 0);
        Check.due("no such STEP", x.step(0, 0), RANGE);
        Check.due("no such EVENT", x.matched(0), RANGE);
        Check.due("no grade", Scores.grades(x, 0), "0 0 0");
        Check.due("no mean", Scores.mean(x, 0), Scores.THROWN);
        Check.due("no end", x.end(), STATE);
        x.note(62, 1);
        Check.due("a note more", x.steps(), 0);
        Check.due("its grade", Scores.grades(x, 1), "0 0 0");
        x.hear(60, 0);
        Check.due("an EVENT more", x.steps(), STATE);
        x.align();
        x.cut(0);
        Check.due("all is cut", x.steps(), STATE);
        Check.due("align()", x.align(), 0);
        Check.due("no STEPS again", x.steps(), 0);
        Check.due("no grade again", Scores.grades(x, 0), "0 0 0");
        Check.due("no mean again", Scores.mean(x, 1), Scores.THROWN);
    }

    private static void best(String what, FollowScore x, int sum, String course) {
        Check.due(what + ": SUM", x.align(), sum);
        Check.due(what + ": COURSE", Scores.course(x), course);
        Check.due(what + ": SUM again", x.align(), sum);
        Check.due(what + ": COURSE again", Scores.course(x), course);
    }

    private static void kinds() {
        FollowScore x = Scores.scale(6);
        x.way(4, 1);
        Scores.costs(x, 3, 4, 4, 1, 9);
        Scores.hear(x, 60, 62, 1, 65, 1, 67, 62, 65, 67);
        best("all kinds but LEAP", x, 3 + 4 + 1 + 4,
                "0 0 0 0 | 0 1 1 0 | 0 2 2 3 | 0 3 3 0 | 1 3 4 4 | 0 4 5 0 | 0 1 6 1 | 2 2 -1 4 | 0 3 7 0 | 0 4 8 0");
        FollowScore y = Scores.scale(8);
        y.cost(1, 50);
        Scores.hear(y, 69, 71, 72, 60, 62, 64);
        best("LEAPS on and back", y, 12, "3 5 0 6 | 0 6 1 0 | 0 7 2 0 | 3 0 3 6 | 0 1 4 0 | 0 2 5 0");
        FollowScore z = Scores.scale(4);
        Scores.costs(z, 2, 1000, 1000, 1, 5);
        Scores.hear(z, 60, 62, 64, 65, 1);
        best("a LEAP to a wrong note", z, 7, "0 0 0 0 | 0 1 1 0 | 0 2 2 0 | 0 3 3 0 | 3 0 4 7");
    }

    private static void tiesOfKinds() {
        FollowScore x = Scores.of(60);
        x.cost(0, 2);
        Scores.hear(x, 61);
        best("PLAY ahead of EXTRA", x, 2, "0 0 0 2");
        FollowScore y = Scores.scale(2);
        Scores.hear(y, 62);
        best("EXTRA ahead of PASS", y, 2, "1 -1 0 2");
        FollowScore z = Scores.scale(2);
        Scores.costs(z, 3, 3, 2, 1, 2);
        Scores.hear(z, 62);
        best("PASS ahead of LEAP", z, 2, "2 0 -1 2 | 0 1 0 0");
        FollowScore first = Scores.of(60);
        Scores.hear(first, 60, 60);
        best("the first STEP decides", first, 2, "0 0 0 0 | 1 0 1 2");
        FollowScore leap = Scores.of(60);
        leap.cost(4, 0);
        Scores.hear(leap, 60);
        best("PLAY ahead of LEAP", leap, 0, "0 0 0 0");
    }

    private static void tiesOfNexts() {
        FollowScore x = Scores.of(60, 62, 62);
        x.cost(3, 0);
        x.way(0, 2);
        Scores.hear(x, 60, 62);
        best("the note behind ahead of a WAY", x, 0, "0 0 0 0 | 0 1 1 0");
        FollowScore y = Scores.of(60, 60, 62);
        y.cost(3, 0);
        y.way(2, 1);
        y.way(2, 0);
        Scores.hear(y, 60, 60, 62, 60);
        best("WAYS in their order", y, 0, "0 0 0 0 | 0 1 1 0 | 0 2 2 0 | 0 1 3 0");
        FollowScore z = Scores.of(60, 60);
        z.cost(3, 0);
        z.way(1, 1);
        z.way(1, 0);
        z.loop(0, 1);
        Scores.hear(z, 60, 60, 60);
        best("the LOOP ahead of a WAY", z, 0, "0 0 0 0 | 0 1 1 0 | 0 0 2 0");
        FollowScore twice = Scores.of(60, 62);
        twice.way(1, 0);
        twice.loop(0, 1);
        Scores.hear(twice, 60, 62, 60);
        best("a note that is NEXT twice", twice, 0, "0 0 0 0 | 0 1 1 0 | 0 0 2 0");
    }

    private static FollowScore towardsFour(int firstWay, int secondWay) {
        FollowScore x = Scores.of(60, 61, 62, 63, 64);
        Scores.costs(x, 1000, 1000, 2, 0, 1000);
        x.way(0, firstWay);
        x.way(0, secondWay);
        x.way(2, 4);
        Scores.hear(x, 60, 64);
        return x;
    }

    private static void tiesOfPasses() {
        best("PASS by the first WAY", towardsFour(3, 2), 2, "0 0 0 0 | 2 3 -1 2 | 0 4 1 0");
        best("PASS by the other one", towardsFour(2, 3), 2, "0 0 0 0 | 2 2 -1 2 | 0 4 1 0");
    }

    private static void tiesOfLeaps() {
        FollowScore x = Scores.of(62, 60, 60);
        x.cost(4, 0);
        Scores.hear(x, 60);
        best("the lesser note", x, 0, "3 1 0 0");
        FollowScore y = Scores.of(62, 60, 60);
        y.cost(4, 0);
        y.loop(2, 2);
        Scores.hear(y, 62);
        best("only notes that are there", y, 2, "1 -1 0 2");
    }

    private static void inLoop() {
        FollowScore x = Scores.scale(5);
        x.loop(1, 3);
        Scores.hear(x, 62, 64, 65, 62, 65, 64);
        best("round and round", x, 2, "0 1 0 0 | 0 2 1 0 | 0 3 2 0 | 0 1 3 0 | 1 1 4 2 | 0 2 5 0");
    }

    private static void manySteps() {
        FollowScore x = new FollowScore();
        for (int i = 0; i < 60; i++) x.note(i, i);
        Scores.costs(x, 1000, 1000, 1, 1000, 1000);
        x.loop(0, 59);
        for (int i = 0; i < 120; i++) x.hear(59, i);
        Check.due("SUM", x.align(), 59 * 120);
        Check.due("STEPS", x.steps(), 60 * 120);
        Check.due("the last STEP", x.step(7199, 1), 59);
        Check.due("its EVENT", x.step(7199, 2), 119);
        Check.due("its kind", x.step(7199, 0), 0);
        Check.due("the one ahead of it", x.step(7198, 0), 2);
        Check.due("none behind it", x.step(7200, 0), RANGE);
        Check.due("note 58", Scores.grades(x, 58), "0 0 120");
        Check.due("note 59", Scores.grades(x, 59), "120 120 0");
        Check.due("mean(0)", Scores.mean(x, 0), 1);
        Check.due("mean(1)", Scores.mean(x, 1), 1);
    }

    /** All notes, WAYS and EVENTS that there may be, and the LOOP over all. */
    private static void fullScore() {
        FollowScore x = new FollowScore();
        for (int i = 0; i < 60; i++) x.note(i, i);
        for (int i = 0; i < 12; i++) Check.due("way " + i, x.way(59, 20 + i), i);
        x.loop(0, 59);
        Scores.costs(x, 1000, 1000, 1000, 1, 1000);
        for (int i = 0; i < 60; i++) x.hear(i, i);
        Check.due("ANCHORS", x.told(5), 60);
        for (int i = 31; i < 60; i++) Check.due("by the last WAY", x.hear(i, 100), i);
        for (int i = 0; i < 31; i++) Check.due("by the LOOP", x.hear(i, 100), i);
        Check.due("EVENTS", x.told(2), 120);
        Check.due("SUM", x.align(), 1);
        Check.due("STEPS", x.steps(), 120);
        Check.due("by the WAY", x.step(60, 1) + " " + x.step(60, 3), "31 1");
        Check.due("by the LOOP", x.step(89, 1) + " " + x.step(89, 3), "0 0");
        Check.due("mean", Scores.meanOf(x), "1/1");
        Check.due("grades of 59", Scores.grades(x, 59), "2 2 0");
        Check.due("end()", x.end(), 0);
        Check.due("the last note", Scores.box(x, 59), "1 2");
        Check.due("due(0)", x.due(0), -1);
    }

    private static void spanIsNoMatter() {
        FollowScore x = Scores.scale(8);
        x.span(0);
        Scores.hear(x, 60, 62, 67, 69, 71, 72);
        best("far ahead", x, 4,
                "0 0 0 0 | 0 1 1 0 | 2 2 -1 2 | 2 3 -1 2 | 0 4 2 0 | 0 5 3 0 | 0 6 4 0 | 0 7 5 0");
    }

    private static void refusals() {
        FollowScore x = Scores.scale(3);
        Scores.hear(x, 60, 62);
        isUnknown("never aligned", x);
        x.align();
        Check.due("steps()", x.steps(), 2);
        Check.due("step(2, 0)", x.step(2, 0), RANGE);
        Check.due("step most", x.step(MOST, 3), RANGE);
        Check.due("step least", x.step(LEAST, 0), RANGE);
        Check.due("step(0, 4)", x.step(0, 4), RANGE);
        Check.due("step(0, -1)", x.step(0, -1), RANGE);
        Check.due("hear, refused", x.hear(128, 100), RANGE);
        Check.due("cut, refused", x.cut(3), RANGE);
        Check.due("note, refused", x.note(1, 100), STATE);
        Check.due("still known", x.steps(), 2);
        Check.due("hear", x.hear(64, 100), 2);
        isUnknown("an EVENT", x);
        x.align();
        Check.due("steps()", x.steps(), 3);
        x.cut(3);
        isUnknown("a cut", x);
        x.align();
        x.end();
        isUnknown("an end", x);
        Check.due("no EVENTS", x.matched(0), RANGE);
        x.align();
        Check.due("steps()", x.steps(), 0);
        x.clear();
        Check.due("cleared", x.steps(), STATE);
    }

    private static void isUnknown(String when, FollowScore x) {
        Check.due(when + ": steps()", x.steps(), STATE);
        Check.due(when + ": step(0, 0)", x.step(0, 0), STATE);
        Check.due(when + ": step(900, 3)", x.step(900, 3), STATE);
        Check.due(when + ": step(0, 4)", x.step(0, 4), RANGE);
        Check.due(when + ": step(-1, 0)", x.step(-1, 0), RANGE);
        int events = x.told(2);
        if (events > 0) Check.due(when + ": matched(0)", x.matched(0), STATE);
        Check.due(when + ": matched behind the last", x.matched(events), RANGE);
        Check.due(when + ": matched(-1)", x.matched(-1), RANGE);
        Check.due(when + ": grade(0, 0)", x.grade(0, 0), STATE);
        Check.due(when + ": grade(0, 3)", x.grade(0, 3), RANGE);
        Check.due(when + ": grade(3, 0)", x.grade(3, 0), RANGE);
        Check.due(when + ": mean(0)", Scores.mean(x, 0), STATE);
        Check.due(when + ": mean(2)", Scores.mean(x, 2), RANGE);
        Check.due(when + ": end()", x.end(), STATE);
    }

    private static void matchedAndGrade() {
        FollowScore x = Scores.scale(5);
        Scores.costs(x, 3, 4, 2, 1, 50);
        x.way(2, 0);
        Scores.hear(x, 60, 62, 64, 60, 1, 65, 67, 1);
        best("played, wrong, passed, extra", x, 1 + 3 + 2 + 4,
                "0 0 0 0 | 0 1 1 0 | 0 2 2 0 | 0 0 3 1 | 0 1 4 3 | 2 2 -1 2 | 0 3 5 0 | 0 4 6 0 | 1 4 7 4");
        int[] matched = {0, 1, 2, 0, 1, 3, 4, -1};
        for (int i = 0; i < matched.length; i++) Check.due("matched(" + i + ")", x.matched(i), matched[i]);
        Check.due("matched(8)", x.matched(8), RANGE);
        Check.due("matched least", x.matched(LEAST), RANGE);
        Check.due("grades of 0", Scores.grades(x, 0), "2 2 0");
        Check.due("grades of 1", Scores.grades(x, 1), "2 1 0");
        Check.due("grades of 2", Scores.grades(x, 2), "1 1 1");
        Check.due("grades of 3", Scores.grades(x, 3), "1 1 0");
        Check.due("grades of 4", Scores.grades(x, 4), "1 1 0");
        Check.due("grade(5, 0)", x.grade(5, 0), RANGE);
        Check.due("grade(-1, 0)", x.grade(-1, 0), RANGE);
        Check.due("grade(0, -1)", x.grade(0, -1), RANGE);
        Check.due("grade(0, 3)", x.grade(0, 3), RANGE);
        Check.due("grade most", x.grade(MOST, LEAST), RANGE);
        Check.due("mean", Scores.meanOf(x), "6/7");
    }

    private static void mean() {
        FollowScore x = Scores.scale(4);
        Scores.costs(x, 1, 1000, 1000, 1000, 1000);
        Scores.hear(x, 60, 63, 64, 66);
        x.align();
        Check.due("two of four", Scores.meanOf(x), "1/2");
        x.cut(0);
        Scores.hear(x, 61, 63, 65);
        x.align();
        Check.due("never", Scores.meanOf(x), "0/1");
        x.cut(0);
        Scores.costs(x, 1000, 1, 1000, 1000, 1000);
        Scores.hear(x, 61, 63);
        x.align();
        Check.due("all EXTRA", Scores.course(x), "1 -1 0 1 | 1 -1 1 1");
        Check.due("mean(0)", Scores.mean(x, 0), Scores.THROWN);
        Check.due("mean(1)", Scores.mean(x, 1), Scores.THROWN);
        Check.due("mean(2)", Scores.mean(x, 2), RANGE);
        Check.due("mean(-1)", Scores.mean(x, -1), RANGE);
        Check.due("mean least", Scores.mean(x, LEAST), RANGE);
        Check.due("still known", x.steps(), 2);
    }
}
