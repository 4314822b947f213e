/** Promises 1 to 7: a new object, clear, note, way, loop, cost, span. */
public final class ScoreTest {
    private static final int RANGE = -2, STATE = -3, FULL = -4;
    private static final int LEAST = Integer.MIN_VALUE, MOST = Integer.MAX_VALUE;

    public static void main(String[] args) {
        newObject();
        clear();
        noteNumbers();
        noteRefusals();
        wayNumbers();
        wayRefusals();
        wayWithLoop();
        loopAnswers();
        loopRefusals();
        loopOfOneNote();
        costs();
        costRefusals();
        span();
        Check.finish();
    }

    private static void isNew(String when, FollowScore x) {
        Check.due(when + ": told", Scores.told(x), "0 0 0 -1 0 0 -1 -1 8");
        Check.due(when + ": valueOf(-1)", x.valueOf(-1), 0);
        Check.due(when + ": valueOf(0)", x.valueOf(0), RANGE);
        Check.due(when + ": tempo(0)", x.tempo(0), 1);
        Check.due(when + ": tempo(1)", x.tempo(1), 1);
        Check.due(when + ": due(0)", x.due(0), -1);
        Check.due(when + ": of(0, 0)", x.of(0, 0), RANGE);
        Check.due(when + ": steps()", x.steps(), STATE);
        Check.due(when + ": end()", x.end(), STATE);
        Check.due(when + ": align()", x.align(), STATE);
        Check.due(when + ": steps() behind a refused align()", x.steps(), STATE);
        Check.due(when + ": cut(0)", x.cut(0), -1);
        Check.due(when + ": cut(1)", x.cut(1), RANGE);
        int[] costs = {3, 2, 2, 1, 6};
        for (int i = 0; i < costs.length; i++) {
            Check.due(when + ": cost " + i, x.cost(i, costs[i]), costs[i]);
        }
    }

    private static void newObject() {
        isNew("new", new FollowScore());
    }

    private static void clear() {
        FollowScore x = Scores.scale(4);
        x.way(3, 0);
        Scores.costs(x, 9, 8, 7, 6, 5);
        x.span(3);
        Scores.hear(x, 60, 62);
        x.align();
        x.end();
        x.loop(1, 2);
        Scores.hear(x, 62, 64);
        x.align();
        Check.due("told ahead of clear", Scores.told(x), "4 1 2 2 1 2 1 2 3");
        x.clear();
        isNew("cleared", x);
        Check.due("a note again", x.note(72, 0), 0);
        Check.due("its BOX and DUE", Scores.box(x, 0), "0 0");
        Check.due("the second one", x.note(74, 1), 1);
        Check.due("no WAY is left", x.way(1, 0), 0);
        Check.due("valueOf(0)", x.valueOf(0), -1);
        Check.due("hear", x.hear(72, 0), 0);
        x.clear();
        isNew("cleared again", x);
    }

    private static void noteNumbers() {
        FollowScore x = new FollowScore();
        Check.due("note(0, 0)", x.note(0, 0), 0);
        Check.due("note(127, 1)", x.note(127, 1), 1);
        Check.due("note(5, 1000000)", x.note(5, 1000000), 2);
        Check.due("of(1, 0)", x.of(1, 0), 127);
        Check.due("of(2, 1)", x.of(2, 1), 1000000);
        Check.due("told(0)", x.told(0), 3);
        Check.due("none behind the last start", x.note(5, 1000000), RANGE);
    }

    private static void noteRefusals() {
        FollowScore x = new FollowScore();
        Check.due("note(-1, 0)", x.note(-1, 0), RANGE);
        Check.due("note(128, 0)", x.note(128, 0), RANGE);
        Check.due("note(0, -1)", x.note(0, -1), RANGE);
        Check.due("note(0, 1000001)", x.note(0, 1000001), RANGE);
        Check.due("note least", x.note(LEAST, LEAST), RANGE);
        Check.due("note most", x.note(MOST, MOST), RANGE);
        Check.due("told(0)", x.told(0), 0);
        for (int i = 0; i < 60; i++) Check.due("note " + i, x.note(i, 7 + i), i);
        Check.due("not greater", x.note(0, 66), RANGE);
        Check.due("full", x.note(0, 67), FULL);
        x.loop(0, 3);
        Check.due("not greater, with a LOOP", x.note(0, 66), RANGE);
        Check.due("full, with a LOOP", x.note(0, 67), STATE);
        x.loop(-1, 0);
        x.hear(0, 0);
        Check.due("full, with an EVENT", x.note(0, 67), STATE);
        Check.due("a wrong pitch, with an EVENT", x.note(128, 67), RANGE);
        x.cut(0);
        Check.due("full, the EVENT being cut", x.note(0, 67), FULL);
        Check.due("told(0)", x.told(0), 60);
        FollowScore y = Scores.scale(2);
        y.loop(0, 1);
        Check.due("with a LOOP", y.note(1, 100), STATE);
        y.loop(-1, 0);
        Check.due("without it", y.note(1, 100), 2);
        y.hear(60, 0);
        Check.due("with an EVENT", y.note(1, 200), STATE);
        y.align();
        y.end();
        Check.due("in the next session", y.note(1, 200), 3);
        Check.due("DUE like the first ones", Scores.box(y, 3), "0 0");
    }

    private static void wayNumbers() {
        FollowScore x = Scores.scale(4);
        Check.due("way(3, 0)", x.way(3, 0), 0);
        Check.due("way(0, 0)", x.way(0, 0), 1);
        Check.due("way(0, 2)", x.way(0, 2), 2);
        Check.due("told(1)", x.told(1), 3);
        Scores.hear(x, 60, 60, 64, 65, 60);
        Check.due("by the WAYS", x.align(), 3);
        Check.due("course", Scores.course(x),
                "0 0 0 0 | 0 0 1 1 | 0 2 2 1 | 0 3 3 0 | 0 0 4 1");
    }

    private static void wayRefusals() {
        FollowScore x = Scores.scale(8);
        Check.due("way(-1, 0)", x.way(-1, 0), RANGE);
        Check.due("way(-1, 3)", x.way(-1, 3), RANGE);
        Check.due("way(0, -1)", x.way(0, -1), RANGE);
        Check.due("way(8, 0)", x.way(8, 0), RANGE);
        Check.due("way(0, 8)", x.way(0, 8), RANGE);
        Check.due("way(7, 8)", x.way(7, 8), RANGE);
        Check.due("way(3, 4)", x.way(3, 4), RANGE);
        Check.due("way most", x.way(MOST, LEAST), RANGE);
        Check.due("way least", x.way(LEAST, MOST), RANGE);
        Check.due("way(4, 3)", x.way(4, 3), 0);
        Check.due("it is there already", x.way(4, 3), RANGE);
        for (int i = 1; i < 8; i++) Check.due("way " + i, x.way(7, i - 1), i);
        for (int i = 8; i < 12; i++) Check.due("way " + i, x.way(5, i - 8), i);
        Check.due("told(1)", x.told(1), 12);
        Check.due("full", x.way(6, 6), FULL);
        Check.due("there already, and full", x.way(4, 3), RANGE);
        x.hear(60, 0);
        Check.due("with an EVENT, and full", x.way(6, 6), STATE);
        Check.due("there already, with an EVENT", x.way(4, 3), RANGE);
        Check.due("told(1)", x.told(1), 12);
    }

    private static void wayWithLoop() {
        FollowScore x = Scores.scale(5);
        x.loop(1, 3);
        Check.due("a WAY out of the LOOP", x.way(4, 0), 0);
        Check.due("a WAY in it", x.way(3, 2), 1);
        Check.due("a WAY half in it", x.way(2, 0), 2);
        Check.due("already, out of the LOOP", x.way(4, 0), RANGE);
        Check.due("already, half in it", x.way(2, 0), RANGE);
        Check.due("told(1)", x.told(1), 3);
        Scores.costs(x, 3, 2, 2, 1, 1000);
        Scores.hear(x, 62, 64, 60);
        Check.due("not by the WAY half in it", x.align(), 2);
        Check.due("note 0 is not there", x.matched(2), -1);
        Check.due("its VALUE", x.valueOf(0), -1);
        x.cut(0);
        x.loop(-1, 0);
        Scores.hear(x, 60, 62, 64, 60);
        Check.due("by it without a LOOP", x.align(), 1);
        Check.due("note 0", x.matched(3), 0);
    }

    private static void loopAnswers() {
        FollowScore x = Scores.scale(5);
        Check.due("none there, none set", x.loop(-1, 0), 0);
        Check.due("a first one", x.loop(1, 3), 0);
        Check.due("told(6)", x.told(6), 1);
        Check.due("told(7)", x.told(7), 3);
        Check.due("in place of it", x.loop(0, 4), 1);
        Check.due("told(6)", x.told(6), 0);
        Check.due("told(7)", x.told(7), 4);
        Check.due("none any more", x.loop(-1, 3), 1);
        Check.due("told(6)", x.told(6), -1);
        Check.due("told(7)", x.told(7), -1);
        Check.due("none again, whatever the other number", x.loop(-1, MOST), 0);
    }

    private static void loopRefusals() {
        FollowScore x = Scores.scale(5);
        x.loop(1, 3);
        Check.due("loop(3, 2)", x.loop(3, 2), RANGE);
        Check.due("loop(-2, 2)", x.loop(-2, 2), RANGE);
        Check.due("loop(0, -1)", x.loop(0, -1), RANGE);
        Check.due("loop(5, 5)", x.loop(5, 5), RANGE);
        Check.due("loop(0, 5)", x.loop(0, 5), RANGE);
        Check.due("loop least", x.loop(LEAST, MOST), RANGE);
        Check.due("loop most", x.loop(MOST, MOST), RANGE);
        Check.due("told", Scores.told(x), "5 0 0 -1 0 0 1 3 8");
        x.hear(62, 0);
        Check.due("with an EVENT", x.loop(0, 4), STATE);
        Check.due("none, with an EVENT", x.loop(-1, 0), STATE);
        Check.due("wrong, with an EVENT", x.loop(3, 2), RANGE);
        Check.due("told", Scores.told(x), "5 0 1 1 0 1 1 3 8");
        FollowScore y = new FollowScore();
        Check.due("no notes", y.loop(0, 0), RANGE);
        Check.due("no notes, none", y.loop(-1, 0), 0);
    }

    private static void loopOfOneNote() {
        FollowScore x = Scores.scale(3);
        Check.due("loop(1, 1)", x.loop(1, 1), 0);
        Scores.hear(x, 62, 62, 62);
        Check.due("three times", x.align(), 0);
        Check.due("course", Scores.course(x), "0 1 0 0 | 0 1 1 0 | 0 1 2 0");
        Check.due("values", Scores.values(x, 3), "6 -1 0 -1");
        Check.due("ANCHORS", x.told(5), 1);
    }

    private static void costs() {
        FollowScore x = Scores.scale(3);
        Check.due("cost(0, 0)", x.cost(0, 0), 3);
        Check.due("cost(0, 1000)", x.cost(0, 1000), 0);
        Check.due("cost(1, 1)", x.cost(1, 1), 2);
        Check.due("cost(1, 1000)", x.cost(1, 1000), 1);
        Check.due("cost(2, 1)", x.cost(2, 1), 2);
        Check.due("cost(2, 500)", x.cost(2, 500), 1);
        Check.due("cost(3, 0)", x.cost(3, 0), 1);
        Check.due("cost(3, 400)", x.cost(3, 400), 0);
        Check.due("cost(4, 0)", x.cost(4, 0), 6);
        Check.due("cost(4, 300)", x.cost(4, 300), 0);
        x.way(0, 0);
        Scores.hear(x, 60, 60, 64, 64, 64);
        Check.due("LEAPS, which cost least", x.align(), 1200);
        Check.due("course", Scores.course(x), "0 0 0 0 | 3 0 1 300 | 3 2 2 300 | 3 2 3 300 | 3 2 4 300");
    }

    private static void costRefusals() {
        FollowScore x = Scores.scale(3);
        Check.due("cost(-1, 1)", x.cost(-1, 1), RANGE);
        Check.due("cost(5, 1)", x.cost(5, 1), RANGE);
        Check.due("cost most", x.cost(MOST, 1), RANGE);
        Check.due("cost least", x.cost(LEAST, 1), RANGE);
        for (int which = 0; which < 5; which++) {
            Check.due("cost -1 of " + which, x.cost(which, -1), RANGE);
            Check.due("cost 1001 of " + which, x.cost(which, 1001), RANGE);
        }
        Check.due("cost(1, 0)", x.cost(1, 0), RANGE);
        Check.due("cost(2, 0)", x.cost(2, 0), RANGE);
        x.hear(60, 0);
        Check.due("with an EVENT", x.cost(0, 1), STATE);
        Check.due("wrong, with an EVENT", x.cost(1, 0), RANGE);
        x.cut(0);
        int[] costs = {3, 2, 2, 1, 6};
        for (int i = 0; i < 5; i++) Check.due("cost " + i + " as it was", x.cost(i, 5), costs[i]);
    }

    private static void span() {
        FollowScore x = Scores.scale(3);
        Check.due("span(0)", x.span(0), 8);
        Check.due("span(100)", x.span(100), 0);
        Check.due("span(101)", x.span(101), RANGE);
        Check.due("span(-1)", x.span(-1), RANGE);
        Check.due("span least", x.span(LEAST), RANGE);
        Check.due("told(8)", x.told(8), 100);
        x.hear(60, 0);
        Check.due("with an EVENT", x.span(5), STATE);
        Check.due("wrong, with an EVENT", x.span(101), RANGE);
        Check.due("told(8)", x.told(8), 100);
        x.align();
        x.end();
        Check.due("in the next session", x.span(5), 100);
    }
}
