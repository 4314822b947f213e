import java.io.IOException;
import java.util.function.Supplier;

/** Promises 13 to 18, sentence by sentence: each boundary case that a sentence names is tested here. */
public final class BestSentencesTest {
    private static final int NONE = -1, RANGE = -2, STATE = -3, FULL = -4;
    private static final int LEAST = Integer.MIN_VALUE, MOST = Integer.MAX_VALUE;

    public static void main(String[] args) throws IOException {
        align();
        ties();
        step();
        unknownBest();
        steps();
        matched();
        grade();
        mean();
        Sentence.covered(13, 18);
        Check.finish();
    }

    // ---- objects in which calls are refused

    private static FollowScore empty() {
        return new FollowScore();
    }

    private static FollowScore three() {
        return Scores.scale(3);
    }

    private static FollowScore threeHeard() {
        FollowScore x = three();
        Scores.hear(x, 60, 62);
        return x;
    }

    private static FollowScore threeAligned() {
        FollowScore x = threeHeard();
        x.align();
        return x;
    }

    /** A STEP of each kind: note 0, an EXTRA, note 1 passed, note 2, a LEAP to note 5, note 0 by a WAY. */
    private static FollowScore allKinds() {
        FollowScore x = Scores.scale(6);
        x.way(5, 0);
        Scores.costs(x, 9, 4, 3, 1, 5);
        Scores.hear(x, 60, 1, 64, 69, 60);
        x.align();
        return x;
    }

    private static FollowScore alignedWithoutEvents() {
        FollowScore x = three();
        x.align();
        return x;
    }

    private static FollowScore alignedThenHeard() {
        FollowScore x = threeAligned();
        x.hear(64, 100);
        return x;
    }

    private static FollowScore alignedThenCut() {
        FollowScore x = threeAligned();
        x.cut(1);
        return x;
    }

    private static FollowScore alignedThenCutNothing() {
        FollowScore x = threeAligned();
        x.cut(2);
        return x;
    }

    private static FollowScore ended() {
        FollowScore x = threeAligned();
        x.end();
        return x;
    }

    private static FollowScore endedThenHeard() {
        FollowScore x = ended();
        x.hear(60, 0);
        return x;
    }

    private static FollowScore clearedThenHeard() {
        FollowScore x = threeAligned();
        x.clear();
        x.note(60, 0);
        x.hear(60, 0);
        return x;
    }

    // ---- promise 13

    private static void align() {
        alignSum();
        alignWithoutEvents();
        alignWithoutNotes();
        alignAtTheLimits();
    }

    private static void alignSum() {
        Sentence s = new Sentence(13, "THE BEST is found for the EVENTS that there are: its SUM");
        FollowScore x = allKinds();
        s.due("all kinds", x.align(), 4 + 3 + 5 + 1);
        s.due("again", x.align(), 13);
        x.cut(3);
        s.due("fewer EVENTS", x.align(), 4 + 3);
        s.due("steps()", x.steps(), 4);
        x.hear(65, 100);
        s.due("one more", x.align(), 4 + 3);
        s.due("steps()", x.steps(), 5);
        FollowScore y = Scores.scale(8);
        y.span(0);
        Scores.hear(y, 60, 62, 67, 69, 71, 72);
        s.due("the SPAN is no matter", y.align(), 4);
    }

    private static void alignWithoutEvents() {
        Sentence s = new Sentence(13, "(0 and no STEPS without EVENTS)");
        FollowScore x = three();
        s.due("align()", x.align(), 0);
        s.due("steps()", x.steps(), 0);
        s.due("step(0, 0)", x.step(0, 0), RANGE);
        FollowScore y = allKinds();
        y.cut(0);
        s.due("all were cut", y.align(), 0);
        s.due("steps()", y.steps(), 0);
        s.due("grades", Scores.grades(y, 0), "0 0 0");
        FollowScore z = ended();
        s.due("in the next session", z.align(), 0);
        s.due("steps()", z.steps(), 0);
        FollowScore w = alignedWithoutEvents();
        w.hear(1, 0);
        s.due("an EVENT behind it", w.align(), 2);
        s.due("steps()", w.steps(), 1);
    }

    private static void alignWithoutNotes() {
        Sentence s = new Sentence(13, "STATE: there are no notes.");
        s.refused("no notes", BestSentencesTest::empty, FollowScore::align, STATE);
        FollowScore x = threeAligned();
        x.clear();
        s.due("no notes any more", x.align(), STATE);
        s.due("steps()", x.steps(), STATE);
        s.due("one note", Scores.scale(1).align(), 0);
    }

    private static void alignAtTheLimits() {
        Sentence s = new Sentence(13, "THE BEST is the COURSE with the least SUM");
        FollowScore dear = Scores.sixty();
        Scores.costs(dear, 1000, 1000, 1000, 1000, 1000);
        Scores.hearOften(dear, 120, 127, 0);
        s.due("nothing but mistakes", dear.align(), 120000);
        s.due("wrong notes as long as there are some", dear.step(59, 0) + " " + dear.step(59, 1), "0 59");
        s.due("then EXTRA", dear.step(60, 0) + " " + dear.step(60, 1), "1 59");
        FollowScore round = Scores.sixty();
        Scores.costs(round, 1000, 1000, 1, 1000, 1000);
        round.loop(0, 59);
        Scores.hearOften(round, 120, 59, 0);
        s.due("59 PASSES for each EVENT", round.align(), 59 * 120);
        s.due("steps()", round.steps(), 7200);
        s.due("the last STEP", round.step(7199, 0) + " " + round.step(7199, 1) + " " + round.step(7199, 2), "0 59 119");
        s.due("and no more", round.step(7200, 0), RANGE);
        FollowScore full = Scores.sixty();
        for (int i = 0; i < 12; i++) full.way(59, 20 + i);
        full.loop(0, 59);
        Scores.costs(full, 1000, 1000, 1000, 1, 1000);
        for (int i = 0; i < 60; i++) full.hear(i, 0);
        for (int i = 0; i < 60; i++) full.hear((31 + i) % 60, 0);
        s.due("all notes, WAYS and EVENTS: the last WAY", full.align(), 1);
        FollowScore one = Scores.scale(1);
        Scores.hearOften(one, 120, 60, 0);
        s.due("one note again and again", one.align(), 119 * 2);
        s.due("steps()", one.steps(), 120);
    }

    // ---- promise 13: of several COURSES

    private static void ties() {
        tiesOfKinds();
        tiesOfNexts();
        tiesOfPasses();
        tiesOfLeaps();
        tiesAtALaterStep();
        nextTwice();
    }

    private static void best(Sentence s, String what, FollowScore x, int sum, String course) {
        s.due(what + ": SUM", x.align(), sum);
        s.due(what + ": COURSE", Scores.course(x), course);
    }

    /** Notes 60 and 62 with these COSTS (WAY being 1000); one EVENT 62. */
    private static FollowScore tied(int wrong, int extra, int skip, int leap) {
        FollowScore x = Scores.scale(2);
        Scores.costs(x, wrong, extra, skip, 1000, leap);
        Scores.hear(x, 62);
        return x;
    }

    private static void tiesOfKinds() {
        Sentence s = new Sentence(13, "of several that which has, at the first STEP at which they differ,"
                + " the lesser kind");
        best(s, "PLAY, EXTRA", tied(5, 5, 9, 9), 5, "0 0 0 5");
        best(s, "PLAY, PASS", tied(5, 9, 5, 9), 5, "0 0 0 5");
        best(s, "PLAY, LEAP", tied(5, 9, 9, 5), 5, "0 0 0 5");
        best(s, "EXTRA, PASS", tied(9, 5, 5, 9), 5, "1 -1 0 5");
        best(s, "EXTRA, LEAP", tied(9, 5, 9, 5), 5, "1 -1 0 5");
        best(s, "PASS, LEAP", tied(9, 9, 5, 5), 5, "2 0 -1 5 | 0 1 0 0");
        best(s, "all of them", tied(5, 5, 5, 5), 5, "0 0 0 5");
        best(s, "PLAY alone", tied(5, 6, 6, 6), 5, "0 0 0 5");
        best(s, "EXTRA alone", tied(6, 5, 6, 6), 5, "1 -1 0 5");
        best(s, "PASS alone", tied(6, 6, 5, 6), 5, "2 0 -1 5 | 0 1 0 0");
        best(s, "LEAP alone", tied(6, 6, 6, 5), 5, "3 1 0 5");
    }

    private static void tiesOfNexts() {
        Sentence s = new Sentence(13, "of one kind that to the NEXT which is told first here");
        FollowScore x = Scores.of(60, 62, 62);
        x.cost(3, 0);
        x.way(0, 2);
        Scores.hear(x, 60, 62);
        best(s, "the note behind, then a WAY", x, 0, "0 0 0 0 | 0 1 1 0");
        FollowScore y = Scores.of(60, 60);
        y.cost(3, 0);
        y.way(1, 1);
        y.loop(0, 1);
        Scores.hear(y, 60, 60, 60);
        best(s, "the LOOP's first note, then a WAY", y, 0, "0 0 0 0 | 0 1 1 0 | 0 0 2 0");
        FollowScore z = Scores.of(60, 60, 62);
        z.cost(3, 0);
        z.way(2, 1);
        z.way(2, 0);
        Scores.hear(z, 60, 60, 62, 60);
        best(s, "the WAY to 1, then that to 0", z, 0, "0 0 0 0 | 0 1 1 0 | 0 2 2 0 | 0 1 3 0");
        FollowScore w = Scores.of(60, 60, 62);
        w.cost(3, 0);
        w.way(2, 0);
        w.way(2, 1);
        Scores.hear(w, 60, 60, 62, 60);
        best(s, "the WAY to 0, then that to 1", w, 0, "0 0 0 0 | 0 1 1 0 | 0 2 2 0 | 0 0 3 0");
    }

    /** From note 0 PASSES over note 2 and over note 3 lead to note 4 for the same SUM. */
    private static FollowScore overTwoOrThree(int firstWay, int secondWay) {
        FollowScore x = Scores.of(60, 61, 62, 63, 64);
        Scores.costs(x, 1000, 1000, 2, 0, 1000);
        x.way(0, firstWay);
        x.way(0, secondWay);
        x.way(2, 4);
        Scores.hear(x, 60, 64);
        return x;
    }

    private static void tiesOfPasses() {
        Sentence s = new Sentence(13, "that to the NEXT which is told first here");
        best(s, "PASS by the WAY to 3", overTwoOrThree(3, 2), 2, "0 0 0 0 | 2 3 -1 2 | 0 4 1 0");
        best(s, "PASS by the WAY to 2", overTwoOrThree(2, 3), 2, "0 0 0 0 | 2 2 -1 2 | 0 4 1 0");
        FollowScore x = Scores.of(60, 61, 62, 63);
        Scores.costs(x, 1000, 1000, 2, 0, 1000);
        x.way(0, 2);
        x.way(1, 3);
        Scores.hear(x, 60, 63);
        best(s, "PASS to the note behind, then by a WAY", x, 2, "0 0 0 0 | 2 1 -1 2 | 0 3 1 0");
    }

    private static void tiesOfLeaps() {
        Sentence s = new Sentence(13, "of LEAPS that to the lesser note");
        FollowScore x = Scores.of(62, 60, 64, 60);
        x.cost(4, 0);
        Scores.hear(x, 60);
        best(s, "1 and 3", x, 0, "3 1 0 0");
        FollowScore y = Scores.of(62, 60, 64, 60);
        y.cost(4, 0);
        Scores.hear(y, 64, 60, 60);
        best(s, "back", y, 0, "3 2 0 0 | 0 3 1 0 | 3 1 2 0");
        FollowScore z = Scores.of(60, 62, 60);
        z.cost(4, 0);
        z.loop(1, 2);
        Scores.hear(z, 60);
        best(s, "only notes that are there", z, 0, "3 2 0 0");
    }

    private static void tiesAtALaterStep() {
        Sentence s = new Sentence(13, "at the first STEP at which they differ");
        FollowScore x = Scores.of(60);
        Scores.hear(x, 60, 60);
        best(s, "PLAY and EXTRA, EXTRA and PLAY", x, 2, "0 0 0 0 | 1 0 1 2");
        FollowScore y = Scores.of(60, 62);
        Scores.costs(y, 9, 2, 9, 9, 9);
        Scores.hear(y, 60, 62, 62, 62);
        best(s, "PLAY as soon as it may be", y, 4, "0 0 0 0 | 0 1 1 0 | 1 1 2 2 | 1 1 3 2");
        FollowScore z = Scores.of(60, 62, 64);
        Scores.costs(z, 3, 1000, 3, 1, 1000);
        Scores.hear(z, 60, 64);
        best(s, "a wrong PLAY, then PASS and PLAY", z, 3, "0 0 0 0 | 0 1 1 3");
    }

    private static void nextTwice() {
        Sentence s = new Sentence(13, "(A note may be NEXT twice.)");
        FollowScore x = Scores.of(60, 62);
        x.way(1, 0);
        x.loop(0, 1);
        Scores.hear(x, 60, 62, 60);
        best(s, "by the LOOP for nothing, not by the WAY", x, 0, "0 0 0 0 | 0 1 1 0 | 0 0 2 0");
    }

    // ---- promise 14

    private static void step() {
        stepOfEachKind();
        playStep();
        extraStep();
        passStep();
        leapStep();
        stepRange();
        stepUnknownOrNone();
    }

    private static void stepOfEachKind() {
        Sentence s = new Sentence(14, "Of STEP k of THE BEST: what = 0 its kind, 1 the place to which it goes"
                + " (EXTRA: where it stays), 2 the EVENT (NONE: PASS), 3 its cost.");
        s.due("all kinds", Scores.course(allKinds()),
                "0 0 0 0 | 1 0 1 4 | 2 1 -1 3 | 0 2 2 0 | 3 5 3 5 | 0 0 4 1");
    }

    private static void playStep() {
        Sentence s = new Sentence(14, "0 PLAY: to a NEXT, which the next EVENT is: the PRICE,"
                + " and WRONG if the PITCHES differ.");
        s.due("a wrong note", stepsOf(plain(1, 1000, 1000, 1000, 1000), 1), "0 0 0 1");
        FollowScore x = plain(500, 1000, 1000, 499, 1000);
        x.way(1, 0);
        s.due("by a WAY to a wrong note", stepsOf(x, 60, 62, 1), "0 0 0 0 | 0 1 1 0 | 0 0 2 999");
    }

    private static void extraStep() {
        Sentence s = new Sentence(14, "1 EXTRA: the next EVENT is none, the place stays: EXTRA.");
        s.due("ahead of all", stepsOf(plain(1000, 2, 1000, 1000, 1000), 1), "1 -1 0 2");
        s.due("at the last note", stepsOf(plain(1000, 2, 1000, 1000, 1000), 60, 62, 62), "0 0 0 0 | 0 1 1 0 | 1 1 2 2");
        FollowScore x = plain(1000, 1, 1000, 1000, 1000);
        x.loop(1, 1);
        s.due("ahead of a LOOP", stepsOf(x, 1, 62), "1 -1 0 1 | 0 1 1 0");
    }

    private static void passStep() {
        Sentence s = new Sentence(14, "2 PASS: to a NEXT, without an EVENT: the PRICE and SKIP.");
        s.due("the note behind", stepsOf(plain(1000, 1000, 30, 400, 1000), 62), "2 0 -1 30 | 0 1 0 0");
        FollowScore x = plain(1000, 1000, 30, 400, 1000);
        x.way(1, 0);
        s.due("by a WAY", stepsOf(x, 60, 62, 62), "0 0 0 0 | 0 1 1 0 | 2 0 -1 430 | 0 1 2 0");
        FollowScore y = plain(1000, 1000, 30, 400, 1000);
        y.loop(0, 1);
        s.due("round the LOOP", stepsOf(y, 60, 62, 62), "0 0 0 0 | 0 1 1 0 | 2 0 -1 30 | 0 1 2 0");
    }

    private static void leapStep() {
        Sentence s = new Sentence(14, "3 LEAP: to any note that is there, which the next EVENT is: LEAP,"
                + " and WRONG if the PITCHES differ.");
        s.due("on", stepsOf(plain(1000, 1000, 1000, 1000, 20), 62), "3 1 0 20");
        s.due("back", stepsOf(plain(1000, 1000, 1000, 1000, 20), 60, 62, 60), "0 0 0 0 | 0 1 1 0 | 3 0 2 20");
        s.due("to where it is", stepsOf(plain(1000, 1000, 1000, 1000, 20), 60, 60), "0 0 0 0 | 3 0 1 20");
        FollowScore x = Scores.scale(5);
        Scores.costs(x, 9, 9, 2, 1, 2);
        s.due("over notes that would have to be passed", stepsOf(x, 60, 65), "0 0 0 0 | 3 3 1 2");
        s.due("to a wrong note", stepsOf(plain(7, 1000, 1000, 1000, 20), 60, 62, 1), "0 0 0 0 | 0 1 1 0 | 3 0 2 27");
    }

    /** Notes 60 and 62 with these COSTS. */
    private static FollowScore plain(int... costs) {
        FollowScore x = Scores.scale(2);
        Scores.costs(x, costs);
        return x;
    }

    private static String stepsOf(FollowScore x, int... pitches) {
        Scores.hear(x, pitches);
        x.align();
        return Scores.course(x);
    }

    private static void stepRange() {
        Sentence s = new Sentence(14, "RANGE: another what, k below 0");
        for (int wrong : new int[] {-1, 4, LEAST, MOST}) {
            s.refused("step(0, " + wrong + ")", BestSentencesTest::allKinds, x -> x.step(0, wrong), RANGE);
            s.refused("step(0, " + wrong + "), not aligned", BestSentencesTest::threeHeard,
                    x -> x.step(0, wrong), RANGE);
            s.refused("step(0, " + wrong + "), no notes", BestSentencesTest::empty, x -> x.step(0, wrong), RANGE);
        }
        for (int k : new int[] {-1, LEAST}) {
            s.refused("step(" + k + ", 0)", BestSentencesTest::allKinds, x -> x.step(k, 0), RANGE);
            s.refused("step(" + k + ", 0), not aligned", BestSentencesTest::threeHeard, x -> x.step(k, 0), RANGE);
            s.refused("step(" + k + ", 0), no notes", BestSentencesTest::empty, x -> x.step(k, 0), RANGE);
        }
    }

    private static void stepUnknownOrNone() {
        Sentence s = new Sentence(14, "then RANGE: no such STEP.");
        s.due("the last one", allKinds().step(5, 0), 0);
        for (int k : new int[] {6, 7, 7320, MOST}) {
            for (int what = 0; what <= 3; what++) {
                int asked = what;
                s.refused("step(" + k + ", " + what + ")", BestSentencesTest::allKinds, x -> x.step(k, asked), RANGE);
            }
            s.refused("step(" + k + ", 0), not aligned", BestSentencesTest::threeHeard, x -> x.step(k, 0), STATE);
        }
        s.refused("no STEPS at all", BestSentencesTest::alignedWithoutEvents, x -> x.step(0, 0), RANGE);
        FollowScore x = allKinds();
        x.cut(1);
        x.align();
        s.due("of fewer STEPS the last", x.step(0, 0), 0);
        s.due("of fewer STEPS none more", x.step(1, 0), RANGE);
    }

    private static void unknownBest() {
        Sentence s = new Sentence(14, "STATE: align() was not called since the latest EVENT, cut(), end(), clear()"
                + " (in this and the next ones), or ever");
        isUnknown(s, "never", BestSentencesTest::threeHeard);
        isUnknown(s, "never, no EVENTS", BestSentencesTest::three);
        isUnknown(s, "since an EVENT", BestSentencesTest::alignedThenHeard);
        isUnknown(s, "since a cut()", BestSentencesTest::alignedThenCut);
        isUnknown(s, "since a cut() of nothing", BestSentencesTest::alignedThenCutNothing);
        isUnknown(s, "since an end()", BestSentencesTest::ended);
        isUnknown(s, "since an end() and an EVENT", BestSentencesTest::endedThenHeard);
        isUnknown(s, "since a clear()", BestSentencesTest::clearedThenHeard);
        s.refused("steps() without notes", BestSentencesTest::empty, FollowScore::steps, STATE);
        s.refused("mean(0) without notes", BestSentencesTest::empty, x -> Scores.mean(x, 0), STATE);
        s.refused("end() without notes", BestSentencesTest::empty, FollowScore::end, STATE);
        stillKnown();
    }

    private static void isUnknown(Sentence s, String when, Supplier<FollowScore> made) {
        for (int what = 0; what <= 3; what++) {
            int asked = what;
            s.refused(when + ": step(0, " + what + ")", made, x -> x.step(0, asked), STATE);
        }
        s.refused(when + ": steps()", made, FollowScore::steps, STATE);
        long matched = made.get().told(2) > 0 ? STATE : RANGE;
        s.refused(when + ": matched(0)", made, x -> x.matched(0), matched);
        for (int what = 0; what <= 2; what++) {
            int asked = what;
            s.refused(when + ": grade(0, " + what + ")", made, x -> x.grade(0, asked), STATE);
        }
        s.refused(when + ": mean(0)", made, x -> Scores.mean(x, 0), STATE);
        s.refused(when + ": mean(1)", made, x -> Scores.mean(x, 1), STATE);
        s.refused(when + ": end()", made, FollowScore::end, STATE);
        FollowScore x = made.get();
        x.align();
        s.due(when + ", then align()", x.steps(), x.told(2));
    }

    /** What is refused, or only asks, is none of the calls behind which THE BEST is unknown. */
    private static void stillKnown() {
        Sentence s = new Sentence(14, "What is refused changes nothing.");
        FollowScore x = threeAligned();
        s.due("hear", x.hear(60, 99), RANGE);
        s.due("cut", x.cut(3), RANGE);
        s.due("note", x.note(60, 100), STATE);
        s.due("way", x.way(2, 0), STATE);
        s.due("loop", x.loop(0, 1), STATE);
        s.due("cost", x.cost(0, 0), STATE);
        s.due("span", x.span(0), STATE);
        s.due("the BEST is known", x.steps(), 2);
        FollowScore full = Scores.scale(1);
        Scores.hearOften(full, 120, 60, 0);
        full.align();
        s.due("hear", full.hear(60, 0), FULL);
        s.due("the BEST is known", full.steps(), 120);
        FollowScore none = alignedWithoutEvents();
        s.due("end", none.end(), STATE);
        s.due("the BEST is known", none.steps(), 0);
        s.due("a note is no EVENT", none.note(60, 100), 3);
        s.due("the BEST is known", none.steps(), 0);
        s.due("a grade of that note", none.grade(3, 0), 0);
    }

    // ---- promise 15

    private static void steps() {
        Sentence s = new Sentence(15, "How many STEPS.");
        s.due("none", alignedWithoutEvents().steps(), 0);
        s.due("one for each EVENT", threeAligned().steps(), 2);
        s.due("a PASS is one", allKinds().steps(), 6);
        Sentence state = new Sentence(15, "STATE.");
        state.refused("never aligned", BestSentencesTest::threeHeard, FollowScore::steps, STATE);
        state.refused("one EVENT more", BestSentencesTest::alignedThenHeard, FollowScore::steps, STATE);
        state.refused("no notes", BestSentencesTest::empty, FollowScore::steps, STATE);
        FollowScore x = new FollowScore();
        x.align();
        x.note(60, 0);
        state.due("align() was refused", x.steps(), STATE);
    }

    // ---- promise 16

    private static void matched() {
        Sentence s = new Sentence(16, "Which note an EVENT is by THE BEST; NONE: none.");
        FollowScore x = allKinds();
        int[] notes = {0, NONE, 2, 5, 0};
        for (int event = 0; event < notes.length; event++) {
            s.due("matched(" + event + ")", x.matched(event), notes[event]);
        }
        Sentence range = new Sentence(16, "RANGE; STATE.");
        for (int event : new int[] {-1, 5, LEAST, MOST}) {
            range.refused("matched(" + event + ")", BestSentencesTest::allKinds, y -> y.matched(event), RANGE);
            range.refused("matched(" + event + "), not aligned", BestSentencesTest::threeHeard,
                    y -> y.matched(event), RANGE);
            range.refused("matched(" + event + "), no notes", BestSentencesTest::empty, y -> y.matched(event), RANGE);
        }
        range.refused("matched(0), no EVENTS", BestSentencesTest::alignedWithoutEvents, y -> y.matched(0), RANGE);
        range.refused("matched(2) of 2, not aligned", BestSentencesTest::threeHeard, y -> y.matched(2), RANGE);
        range.refused("matched(1) of 2, not aligned", BestSentencesTest::threeHeard, y -> y.matched(1), STATE);
        FollowScore full = Scores.scale(1);
        full.loop(0, 0);
        Scores.hearOften(full, 120, 60, 0);
        full.align();
        range.due("matched(119) of 120", full.matched(119), 0);
        range.due("matched(120) of 120", full.matched(120), RANGE);
        x.cut(2);
        x.align();
        range.due("matched(1), the others being cut", x.matched(1), NONE);
        range.due("matched(2), being cut", x.matched(2), RANGE);
    }

    // ---- promise 17

    private static void grade() {
        Sentence s = new Sentence(17, "Of a note, by THE BEST: how often it was played (what = 0),"
                + " with its PITCH (1), passed (2).");
        FollowScore x = allKinds();
        s.due("twice", Scores.grades(x, 0), "2 2 0");
        s.due("passed", Scores.grades(x, 1), "0 0 1");
        s.due("once", Scores.grades(x, 2), "1 1 0");
        s.due("never", Scores.grades(x, 3), "0 0 0");
        s.due("by a LEAP", Scores.grades(x, 5), "1 1 0");
        FollowScore often = Scores.of(60, 62);
        Scores.costs(often, 1000, 1000, 1, 1000, 1000);
        often.loop(0, 1);
        Scores.hearOften(often, 120, 62, 0);
        often.align();
        s.due("as often as can be: passed", Scores.grades(often, 0), "0 0 120");
        s.due("as often as can be: played", Scores.grades(often, 1), "120 120 0");
        FollowScore wrong = Scores.of(60);
        Scores.costs(wrong, 1, 1000, 1000, 1000, 1);
        Scores.hear(wrong, 1, 60, 1);
        wrong.align();
        s.due("wrong, right and wrong", Scores.grades(wrong, 0), "3 1 0");
        gradeAgain();
        gradeRange();
    }

    private static void gradeAgain() {
        Sentence s = new Sentence(17, "Of a note, by THE BEST");
        FollowScore x = allKinds();
        x.cut(4);
        x.align();
        s.due("played once less", Scores.grades(x, 0), "1 1 0");
        s.due("passed as before, not once more", Scores.grades(x, 1), "0 0 1");
        x.cut(1);
        x.align();
        s.due("not passed any more", Scores.grades(x, 1), "0 0 0");
        s.due("not played any more", Scores.grades(x, 5), "0 0 0");
    }

    private static void gradeRange() {
        Sentence s = new Sentence(17, "RANGE; STATE.");
        for (int note : new int[] {-1, 6, LEAST, MOST}) {
            s.refused("grade(" + note + ", 0)", BestSentencesTest::allKinds, x -> x.grade(note, 0), RANGE);
            s.refused("grade(" + note + ", 0), not aligned", BestSentencesTest::threeHeard,
                    x -> x.grade(note, 0), RANGE);
        }
        for (int what : new int[] {-1, 3, LEAST, MOST}) {
            s.refused("grade(0, " + what + ")", BestSentencesTest::allKinds, x -> x.grade(0, what), RANGE);
            s.refused("grade(0, " + what + "), not aligned", BestSentencesTest::threeHeard,
                    x -> x.grade(0, what), RANGE);
        }
        s.refused("no notes", BestSentencesTest::empty, x -> x.grade(0, 0), RANGE);
        s.refused("not aligned", BestSentencesTest::threeHeard, x -> x.grade(2, 2), STATE);
        FollowScore x = Scores.sixty();
        x.align();
        s.due("grade(59, 0) of 60", x.grade(59, 0), 0);
        s.due("grade(60, 0) of 60", x.grade(60, 0), RANGE);
        FollowScore loop = Scores.scale(3);
        loop.loop(1, 1);
        Scores.hear(loop, 62);
        loop.align();
        s.due("notes out of the LOOP", Scores.grades(loop, 0) + " " + Scores.grades(loop, 2), "0 0 0 0 0 0");
    }

    // ---- promise 18

    private static FollowScore allWrong() {
        FollowScore x = three();
        Scores.costs(x, 1, 1000, 1000, 1000, 1000);
        Scores.hear(x, 1, 1);
        x.align();
        return x;
    }

    private static FollowScore allExtra() {
        FollowScore x = three();
        Scores.costs(x, 1000, 1, 1000, 1000, 1000);
        Scores.hear(x, 1, 1);
        x.align();
        return x;
    }

    private static void mean() {
        Sentence s = new Sentence(18, "How often notes were played with their PITCH (side 0) over how often"
                + " notes were played (side 1), all notes together, in lowest terms (0 over 1 if never with it).");
        s.due("always", Scores.meanOf(threeAligned()), "1/1");
        s.due("never", Scores.meanOf(allWrong()), "0/1");
        s.due("2 of 4", meanOfTwelve(2, 4), "1/2");
        s.due("1 of 3", meanOfTwelve(1, 3), "1/3");
        s.due("2 of 3", meanOfTwelve(2, 3), "2/3");
        s.due("8 of 12", meanOfTwelve(8, 12), "2/3");
        s.due("11 of 12", meanOfTwelve(11, 12), "11/12");
        s.due("12 of 12", meanOfTwelve(12, 12), "1/1");
        s.due("EXTRA and passed notes do not count", Scores.meanOf(allKinds()), "1/1");
        FollowScore often = Scores.of(60);
        Scores.costs(often, 1, 1000, 1000, 1000, 0);
        Scores.hearOften(often, 119, 1, 0);
        Scores.hear(often, 60);
        often.align();
        s.due("1 of 120", Scores.meanOf(often), "1/120");
        meanThrows();
        meanRange();
    }

    /** So many notes are played, the first of them with their PITCH. */
    private static String meanOfTwelve(int right, int played) {
        FollowScore x = Scores.sixty();
        Scores.costs(x, 1, 1000, 1000, 1000, 1000);
        for (int i = 0; i < played; i++) x.hear(i < right ? i : 127, 0);
        x.align();
        return Scores.meanOf(x);
    }

    private static void meanThrows() {
        Sentence s = new Sentence(18, "ArithmeticException: no note was played.");
        for (int side = 0; side <= 1; side++) {
            int asked = side;
            s.refused("mean(" + side + ") of EXTRA alone", BestSentencesTest::allExtra,
                    x -> Scores.mean(x, asked), Scores.THROWN);
            s.refused("mean(" + side + ") without EVENTS", BestSentencesTest::alignedWithoutEvents,
                    x -> Scores.mean(x, asked), Scores.THROWN);
        }
        FollowScore x = threeAligned();
        s.due("a note was played", Scores.mean(x, 0), 1);
        x.cut(0);
        x.align();
        s.due("none any more", Scores.mean(x, 0), Scores.THROWN);
        s.due("nothing is as if it were known", x.end(), STATE);
    }

    private static void meanRange() {
        Sentence s = new Sentence(18, "RANGE and STATE come first.");
        for (int side : new int[] {-1, 2, LEAST, MOST}) {
            s.refused("mean(" + side + ")", BestSentencesTest::threeAligned, x -> Scores.mean(x, side), RANGE);
            s.refused("mean(" + side + "), no note played", BestSentencesTest::allExtra,
                    x -> Scores.mean(x, side), RANGE);
            s.refused("mean(" + side + "), not aligned", BestSentencesTest::threeHeard,
                    x -> Scores.mean(x, side), RANGE);
            s.refused("mean(" + side + "), no notes", BestSentencesTest::empty, x -> Scores.mean(x, side), RANGE);
        }
        FollowScore x = allExtra();
        x.hear(1, 100);
        s.due("not aligned, no note played", Scores.mean(x, 0), STATE);
        s.due("the other side", Scores.mean(x, 1), STATE);
    }
}
