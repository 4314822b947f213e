import java.io.IOException;

/** Promises 19 to 22, sentence by sentence: each boundary case that a sentence names is tested here. */
public final class BoxSentencesTest {
    private static final int NONE = -1, RANGE = -2, STATE = -3;
    private static final int LEAST = Integer.MIN_VALUE, MOST = Integer.MAX_VALUE;

    public static void main(String[] args) throws IOException {
        end();
        boxes();
        due();
        of();
        told();
        Sentence.covered(19, 22);
        Check.finish();
    }

    // ---- objects in which calls are refused

    private static FollowScore empty() {
        return new FollowScore();
    }

    private static FollowScore three() {
        return Scores.scale(3);
    }

    private static FollowScore alignedWithoutEvents() {
        FollowScore x = three();
        x.align();
        return x;
    }

    private static FollowScore heardNotAligned() {
        FollowScore x = three();
        Scores.hear(x, 60);
        return x;
    }

    private static FollowScore heardBehindAlign() {
        FollowScore x = heardNotAligned();
        x.align();
        x.hear(62, 100);
        return x;
    }

    private static FollowScore ended() {
        FollowScore x = three();
        play(x, 60, 62);
        return x;
    }

    private static FollowScore endedAndAligned() {
        FollowScore x = ended();
        x.align();
        return x;
    }

    private static FollowScore cutToNothing() {
        FollowScore x = heardNotAligned();
        x.cut(0);
        x.align();
        return x;
    }

    /** One session with these pitches: what its end() answers. */
    private static int play(FollowScore x, int... pitches) {
        Scores.hear(x, pitches);
        x.align();
        return x.end();
    }

    // ---- promise 19

    private static void end() {
        endOfASession();
        endCountsDue();
        endState();
    }

    private static void endOfASession() {
        Sentence s = new Sentence(19, "The session ends; the next one has no EVENTS");
        FollowScore x = Scores.scale(4);
        x.way(3, 0);
        x.span(5);
        x.loop(0, 2);
        x.cost(4, 9);
        x.hear(60, 500);
        x.hear(62, 10000000);
        x.align();
        s.due("end()", x.end(), 2);
        s.due("told", Scores.told(x), "4 1 0 -1 1 0 0 2 5");
        s.due("values", Scores.values(x, 4), "0 -1 -1 -1 -1");
        s.due("TEMPO", Scores.tempo(x), "1/1");
        s.due("ahead(0)", x.ahead(0), STATE);
        s.due("steps()", x.steps(), STATE);
        s.due("matched(0)", x.matched(0), RANGE);
        s.due("cut(1)", x.cut(1), RANGE);
        s.due("COSTS stay", x.cost(4, 9), 9);
        s.due("any TIME", x.hear(60, 0), 0);
        FollowScore full = Scores.scale(1);
        Scores.hearOften(full, 120, 60, 0);
        full.align();
        s.due("end() of all EVENTS", full.end(), 0);
        Scores.hearOften(full, 120, 60, 0);
        s.due("all EVENTS again", full.told(2), 120);
    }

    private static void endCountsDue() {
        Sentence s = new Sentence(19, "how many notes are DUE in it (from it on or earlier)");
        FollowScore x = three();
        s.due("two were not played: earlier", play(x, 60), 2);
        s.due("note 0, DUE from session 2 on, in it", play(x, 1), 3);
        s.due("earlier", play(x, 1), 3);
        s.due("note 0 again, DUE from 7 on", play(x, 60), 2);
        s.due("told(4)", x.told(4), 4);
        s.due("in 5", play(x, 1), 2);
        s.due("in 6", play(x, 1), 2);
        s.due("in 7", play(x, 1), 3);
        s.due("in 8", play(x, 1), 3);
        FollowScore all = three();
        s.due("none", play(all, 60, 62, 64), 0);
        FollowScore none = three();
        s.due("all", play(none, 1), 3);
        FollowScore loop = Scores.scale(4);
        loop.loop(1, 2);
        s.due("notes out of the LOOP, too", play(loop, 62, 64), 2);
        FollowScore sixty = Scores.sixty();
        s.due("59 of 60", play(sixty, 0), 59);
    }

    private static void endState() {
        Sentence s = new Sentence(19, "STATE: also if there are no EVENTS.");
        s.refused("no notes", BoxSentencesTest::empty, FollowScore::end, STATE);
        s.refused("no EVENTS", BoxSentencesTest::three, FollowScore::end, STATE);
        s.refused("no EVENTS, aligned", BoxSentencesTest::alignedWithoutEvents, FollowScore::end, STATE);
        s.refused("all EVENTS cut, aligned", BoxSentencesTest::cutToNothing, FollowScore::end, STATE);
        s.refused("never aligned", BoxSentencesTest::heardNotAligned, FollowScore::end, STATE);
        s.refused("not since the latest EVENT", BoxSentencesTest::heardBehindAlign, FollowScore::end, STATE);
        s.refused("twice", BoxSentencesTest::ended, FollowScore::end, STATE);
        s.refused("twice, aligned", BoxSentencesTest::endedAndAligned, FollowScore::end, STATE);
        FollowScore x = heardNotAligned();
        x.align();
        s.due("one EVENT is enough", x.end(), 2);
    }

    // ---- promise 19: the BOXES

    private static void boxes() {
        boxesRise();
        boxesStayAtFive();
        boxesFall();
        boxesFallFromFive();
        boxesOfOthers();
    }

    private static void boxesRise() {
        Sentence s = new Sentence(19, "a note that was played (PLAY or LEAP) at least once, each time with its PITCH,"
                + " and was never passed: its BOX is one more");
        FollowScore once = three();
        play(once, 60);
        s.due("a PLAY", Scores.box(once, 0), "1 2");
        FollowScore leap = three();
        leap.cost(4, 0);
        play(leap, 64);
        s.due("a LEAP", Scores.box(leap, 2), "1 2");
        FollowScore often = Scores.scale(1);
        often.loop(0, 0);
        play(often, 60, 60, 60);
        s.due("three times, one more all the same", Scores.box(often, 0), "1 2");
        FollowScore extra = three();
        play(extra, 60, 1);
        s.due("an EXTRA behind it", Scores.box(extra, 0), "1 2");
    }

    private static void boxesStayAtFive() {
        Sentence s = new Sentence(19, "(5 at most), and it is DUE from the session on that is 1, 2, 4, 8, 16, 32"
                + " (by its BOX then, from 0 on) behind the one that ends");
        FollowScore x = three();
        String[] boxes = {"1 2", "2 5", "3 10", "4 19", "5 36", "5 37", "5 38"};
        for (int session = 0; session < boxes.length; session++) {
            play(x, 60);
            s.due("right in session " + session, Scores.box(x, 0), boxes[session]);
        }
        for (int session = 7; session < 36; session++) play(x, 1);
        s.due("the next but one is 38", x.told(4), 36);
        s.due("not in 37", play(x, 1), 2);
        s.due("in 38", play(x, 1), 3);
        s.due("behind those of lesser BOXES", Scores.dueNotes(x), "1 2 0");
    }

    /** What note 1 of three has behind one session, BOX 1 and DUE 2 being what it had before. */
    private static String noteOneBehind(int wrong, int extra, int skip, int... pitches) {
        FollowScore x = three();
        play(x, 60, 62, 64);
        Scores.costs(x, wrong, extra, skip, 1, 1000);
        x.loop(0, 2);
        play(x, pitches);
        return Scores.box(x, 1);
    }

    private static void boxesFall() {
        Sentence s = new Sentence(19, "another one that was played or passed: BOX 0, DUE from the next session on");
        s.due("played right", noteOneBehind(1, 1000, 1000, 60, 62), "2 5");
        s.due("wrong", noteOneBehind(1, 1000, 1000, 60, 1), "0 2");
        s.due("right, then wrong", noteOneBehind(1, 1000, 1000, 60, 62, 64, 60, 1), "0 2");
        s.due("wrong, then right", noteOneBehind(1, 1000, 1000, 60, 1, 64, 60, 62), "0 2");
        s.due("passed", noteOneBehind(1000, 1000, 1, 60, 64), "0 2");
        s.due("right, then passed", noteOneBehind(1000, 1000, 1, 60, 62, 64, 60, 64), "0 2");
        s.due("passed, then right", noteOneBehind(1000, 1000, 1, 60, 64, 60, 62), "0 2");
        s.due("right twice", noteOneBehind(1000, 1000, 1, 60, 62, 64, 60, 62), "2 5");
        FollowScore first = three();
        Scores.costs(first, 1, 1000, 1000, 1, 1000);
        s.due("wrong at once", play(first, 1), 3);
        s.due("BOX 0 stays 0, DUE from 1 on", Scores.box(first, 0), "0 1");
    }

    private static void boxesFallFromFive() {
        Sentence s = new Sentence(19, "another one that was played or passed: BOX 0");
        FollowScore x = three();
        for (int session = 0; session < 6; session++) play(x, 60);
        s.due("BOX 5", Scores.box(x, 0), "5 37");
        Scores.costs(x, 1, 1000, 1000, 1, 1000);
        play(x, 1);
        s.due("wrong", Scores.box(x, 0), "0 7");
        play(x, 60);
        s.due("right again", Scores.box(x, 0), "1 9");
    }

    private static void boxesOfOthers() {
        Sentence s = new Sentence(19, "others stay");
        s.due("not played", noteOneBehind(1000, 1000, 1000, 60), "1 2");
        s.due("nothing but EXTRA", noteOneBehind(1000, 1, 1000, 1, 1), "1 2");
        s.due("its PITCH, but as an EXTRA", noteOneBehind(1000, 1, 1000, 62), "1 2");
        FollowScore x = Scores.scale(4);
        play(x, 60, 62, 64, 65);
        x.loop(1, 2);
        play(x, 62, 64);
        s.due("ahead of the LOOP", Scores.box(x, 0), "1 2");
        s.due("behind the LOOP", Scores.box(x, 3), "1 2");
        s.due("in the LOOP", Scores.box(x, 1) + " " + Scores.box(x, 2), "2 5 2 5");
    }

    // ---- promise 20

    /** In session 2, where all are DUE, note 3 has BOX 0 and the others have BOX 1. */
    private static FollowScore allDue() {
        FollowScore x = Scores.scale(4);
        Scores.costs(x, 1, 1000, 1000, 1, 0);
        play(x, 60, 62, 64, 65);
        x.loop(3, 3);
        play(x, 1);
        x.loop(NONE, 0);
        return x;
    }

    private static void due() {
        Sentence s = new Sentence(20, "The k-th note, from 0 on, that is DUE in this session,"
                + " by BOXES, the lesser first, then by numbers; NONE.");
        FollowScore x = allDue();
        s.due("BOXES", Scores.box(x, 0) + " " + Scores.box(x, 1) + " " + Scores.box(x, 3), "1 2 1 2 0 2");
        s.due("note 3, then by numbers", Scores.dueNotes(x), "3 0 1 2");
        s.due("due(3)", x.due(3), 2);
        s.due("due(4)", x.due(4), NONE);
        s.due("due most", x.due(MOST), NONE);
        play(x, 62);
        s.due("note 1 is not DUE any more", Scores.dueNotes(x), "3 0 2");
        s.due("due(3)", x.due(3), NONE);
        x.hear(60, 0);
        x.align();
        s.due("while a session goes on", Scores.dueNotes(x), "3 0 2");
        s.due("no notes", new FollowScore().due(0), NONE);
        s.due("none DUE", noneDue().due(0), NONE);
        FollowScore sixty = Scores.sixty();
        s.due("due(59) of 60", sixty.due(59), 59);
        s.due("due(60) of 60", sixty.due(60), NONE);
        FollowScore loop = three();
        loop.loop(1, 1);
        s.due("notes out of the LOOP, too", Scores.dueNotes(loop), "0 1 2");
        Sentence range = new Sentence(20, "RANGE: k is below 0.");
        for (int k : new int[] {-1, -2, LEAST}) {
            range.refused("due(" + k + ")", BoxSentencesTest::allDue, y -> y.due(k), RANGE);
            range.refused("due(" + k + ") without notes", BoxSentencesTest::empty, y -> y.due(k), RANGE);
        }
        allBoxes();
    }

    private static FollowScore noneDue() {
        FollowScore x = three();
        play(x, 60, 62, 64);
        return x;
    }

    /** Behind 64 sessions all notes are DUE, and the BOXES are 5 to 0 by numbers. */
    private static void allBoxes() {
        Sentence s = new Sentence(20, "by BOXES, the lesser first, then by numbers");
        FollowScore x = Scores.scale(6);
        for (int last = 4; last >= 0; last--) {
            int[] pitches = new int[last + 1];
            System.arraycopy(Scores.SCALE, 0, pitches, 0, last + 1);
            play(x, pitches);
        }
        StringBuilder boxes = new StringBuilder();
        for (int note = 0; note < 6; note++) boxes.append(x.of(note, 2));
        s.due("the BOXES", boxes.toString(), "543210");
        s.due("DUE in session 5", Scores.dueNotes(x), "5 4 3");
        for (int session = 5; session < 36; session++) play(x, 1);
        s.due("DUE in session 36", Scores.dueNotes(x), "5 4 3 2 1 0");
    }

    // ---- promise 21

    private static void of() {
        Sentence s = new Sentence(21, "Of a note: PITCH (what = 0), START (1), BOX (2),"
                + " from which session on it is DUE (3).");
        FollowScore x = new FollowScore();
        x.note(0, 0);
        x.note(127, 1000000);
        s.due("the least PITCH and START", x.of(0, 0) + " " + x.of(0, 1), "0 0");
        s.due("the greatest PITCH and START", x.of(1, 0) + " " + x.of(1, 1), "127 1000000");
        s.due("at first", Scores.box(x, 0), "0 0");
        play(x, 0);
        s.due("behind a session", Scores.box(x, 0), "1 2");
        s.due("of another note", Scores.box(x, 1), "0 0");
        Sentence range = new Sentence(21, "RANGE.");
        for (int note : new int[] {-1, 3, LEAST, MOST}) {
            for (int what = 0; what <= 3; what++) {
                int asked = what;
                range.refused("of(" + note + ", " + what + ")", BoxSentencesTest::ended, y -> y.of(note, asked), RANGE);
            }
        }
        for (int what : new int[] {-1, 4, LEAST, MOST}) {
            range.refused("of(0, " + what + ")", BoxSentencesTest::ended, y -> y.of(0, what), RANGE);
        }
        range.refused("no notes", BoxSentencesTest::empty, y -> y.of(0, 0), RANGE);
        FollowScore sixty = Scores.sixty();
        range.due("of(59, 0) of 60", sixty.of(59, 0), 59);
        range.due("of(60, 0) of 60", sixty.of(60, 0), RANGE);
        FollowScore loop = three();
        loop.loop(1, 1);
        range.due("notes out of the LOOP are such notes", loop.of(0, 0) + " " + loop.of(2, 0), "60 64");
    }

    // ---- promise 22

    private static void told() {
        Sentence s = new Sentence(22, "0 notes, 1 WAYS, 2 EVENTS, 3 THE PLACE, 4 the session, 5 ANCHORS,"
                + " 6 and 7 the LOOP's first and last note (NONE), 8 SPAN.");
        s.due("at first", Scores.told(new FollowScore()), "0 0 0 -1 0 0 -1 -1 8");
        FollowScore x = Scores.scale(4);
        x.way(3, 0);
        x.way(2, 0);
        x.loop(1, 2);
        x.span(77);
        play(x, 62);
        Scores.hear(x, 62, 64, 1);
        s.due("all of it", Scores.told(x), "4 2 3 2 1 2 1 2 77");
        s.due("without a LOOP", Scores.told(three()), "3 0 0 -1 0 0 -1 -1 8");
        FollowScore all = three();
        all.loop(0, 0);
        s.due("a LOOP of note 0", Scores.told(all), "3 0 0 -1 0 0 0 0 8");
        Sentence range = new Sentence(22, "RANGE.");
        for (int what : new int[] {-1, 9, LEAST, MOST}) {
            range.refused("told(" + what + ")", BoxSentencesTest::ended, y -> y.told(what), RANGE);
            range.refused("told(" + what + ") without notes", BoxSentencesTest::empty, y -> y.told(what), RANGE);
        }
    }
}
