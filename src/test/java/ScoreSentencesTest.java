import java.io.IOException;

/** Promises 1 to 7, sentence by sentence: each boundary case that a sentence names is tested here. */
public final class ScoreSentencesTest {
    private static final int NONE = -1, RANGE = -2, STATE = -3, FULL = -4;
    private static final int LEAST = Integer.MIN_VALUE, MOST = Integer.MAX_VALUE;
    private static final String FIRST_THAT_FITS = "Refusals are below -1, the first that fits: RANGE -2 a number is not"
            + " as told, or there is no such thing; STATE -3; FULL -4. What is refused changes nothing.";

    public static void main(String[] args) throws IOException {
        newObject();
        clear();
        note();
        way();
        loop();
        cost();
        span();
        Sentence.covered(1, 7);
        Check.finish();
    }

    // ---- objects in which calls are refused

    private static FollowScore empty() {
        return new FollowScore();
    }

    /** Notes 0 to 3, a WAY from 3 to 0 and other COSTS than at first; no EVENTS. */
    private static FollowScore four() {
        FollowScore x = Scores.scale(4);
        x.way(3, 0);
        Scores.costs(x, 9, 8, 7, 6, 5);
        return x;
    }

    private static FollowScore fourWithLoop() {
        FollowScore x = four();
        x.loop(1, 2);
        return x;
    }

    private static FollowScore fourWithEvent() {
        FollowScore x = four();
        x.hear(60, 5);
        x.align();
        return x;
    }

    private static FollowScore fourWithLoopAndEvent() {
        FollowScore x = fourWithLoop();
        x.hear(62, 5);
        return x;
    }

    private static FollowScore sixtyWithLoop() {
        FollowScore x = Scores.sixty();
        x.loop(0, 59);
        return x;
    }

    private static FollowScore sixtyWithEvent() {
        FollowScore x = Scores.sixty();
        x.hear(0, 0);
        return x;
    }

    private static FollowScore twelveWays() {
        FollowScore x = Scores.scale(8);
        for (int to = 0; to < 8; to++) x.way(7, to);
        for (int to = 0; to < 4; to++) x.way(5, to);
        return x;
    }

    private static FollowScore twelveWaysWithEvent() {
        FollowScore x = twelveWays();
        x.hear(60, 0);
        return x;
    }

    // ---- promise 1

    private static void newObject() {
        noNotesAtFirst();
        noWaysAtFirst();
        noLoopAtFirst();
        spanAtFirst();
        sessionAtFirst();
        costsAtFirst();
        valuesAtFirst();
        boxesAtFirst();
    }

    private static void noNotesAtFirst() {
        Sentence s = new Sentence(1, "No notes");
        FollowScore x = new FollowScore();
        s.due("told(0)", x.told(0), 0);
        for (int what = 0; what <= 3; what++) s.due("of(0, " + what + ")", x.of(0, what), RANGE);
        s.due("valueOf(0)", x.valueOf(0), RANGE);
        s.due("ahead(0)", x.ahead(0), RANGE);
        s.due("grade(0, 0)", x.grade(0, 0), RANGE);
        s.due("due(0)", x.due(0), NONE);
        s.due("way(0, 0)", x.way(0, 0), RANGE);
        s.due("loop(0, 0)", x.loop(0, 0), RANGE);
        s.due("align()", x.align(), STATE);
        s.due("hear(0, 0)", x.hear(0, 0), STATE);
        s.due("the first note", x.note(0, 0), 0);
    }

    private static void noWaysAtFirst() {
        Sentence s = new Sentence(1, "no WAYS");
        s.due("told(1)", new FollowScore().told(1), 0);
        FollowScore x = Scores.scale(3);
        s.due("told(1) with notes", x.told(1), 0);
        Scores.hear(x, 60, 62, 64, 60);
        s.due("an EXTRA, since there is no WAY", x.align(), 2);
        x.cut(0);
        s.due("the first WAY", x.way(2, 0), 0);
    }

    private static void noLoopAtFirst() {
        Sentence s = new Sentence(1, "no LOOP");
        FollowScore x = new FollowScore();
        s.due("told(6)", x.told(6), NONE);
        s.due("told(7)", x.told(7), NONE);
        s.due("loop(NONE, 0)", x.loop(NONE, 0), 0);
        s.due("a note is taken", x.note(60, 0), 0);
        s.due("and one more", x.note(62, 1), 1);
        s.due("loop(0, 1)", x.loop(0, 1), 0);
    }

    private static void spanAtFirst() {
        Sentence s = new Sentence(1, "SPAN 8");
        s.due("told(8)", new FollowScore().told(8), 8);
        s.due("span(1)", new FollowScore().span(1), 8);
        FollowScore x = Scores.sixty();
        x.hear(0, 0);
        s.due("8 from THE PLACE", x.valueOf(8), 6 + 3);
        s.due("9 from THE PLACE", x.valueOf(9), NONE);
    }

    private static void sessionAtFirst() {
        Sentence s = new Sentence(1, "session 0 without EVENTS");
        FollowScore x = new FollowScore();
        s.due("told(4)", x.told(4), 0);
        s.due("told(2)", x.told(2), 0);
        s.due("told(5)", x.told(5), 0);
        s.due("cut(0)", x.cut(0), NONE);
        s.due("cut(1)", x.cut(1), RANGE);
        s.due("matched(0)", x.matched(0), RANGE);
        s.due("end()", x.end(), STATE);
        s.due("steps()", x.steps(), STATE);
        s.due("TEMPO", Scores.tempo(x), "1/1");
        x.note(60, 0);
        s.due("any TIME is late enough", x.hear(60, 0), 0);
    }

    private static void costsAtFirst() {
        Sentence s = new Sentence(1, "at first 3 2 2 1 6");
        int[] costs = {3, 2, 2, 1, 6};
        FollowScore x = new FollowScore();
        for (int which = 0; which <= 4; which++) {
            s.due("cost(" + which + ", 1)", x.cost(which, 1), costs[which]);
        }
    }

    private static void valuesAtFirst() {
        Sentence s = new Sentence(1, "at first 0 for -1, none for the others");
        s.due("valueOf(-1) without notes", new FollowScore().valueOf(-1), 0);
        s.due("values of all notes", Scores.values(Scores.scale(4), 4), "0 -1 -1 -1 -1");
        Sentence place = new Sentence(1, "THE PLACE (-1 at first)");
        place.due("told(3)", new FollowScore().told(3), -1);
        place.due("told(3) with notes", Scores.scale(4).told(3), -1);
    }

    private static void boxesAtFirst() {
        Sentence box = new Sentence(1, "each note has a BOX 0 .. 5 (0 at first)");
        Sentence due = new Sentence(1, "DUE from a session on (0 at first, the first session being 0)");
        FollowScore x = Scores.sixty();
        for (int note = 0; note < 60; note++) {
            box.due("of(" + note + ", 2)", x.of(note, 2), 0);
            due.due("of(" + note + ", 3)", x.of(note, 3), 0);
            due.due("due(" + note + ")", x.due(note), note);
        }
        due.due("due(60)", x.due(60), NONE);
        FollowScore later = Scores.scale(1);
        Scores.hear(later, 60);
        later.align();
        later.end();
        later.note(62, 100);
        box.due("a note of session 1", later.of(1, 2), 0);
        due.due("a note of session 1", later.of(1, 3), 0);
        due.due("it is DUE at once", later.due(0), 1);
    }

    // ---- promise 2

    private static final String AS_AT_FIRST = "All as at first.";

    private static void clear() {
        clearOfNothing();
        clearOfAFullObject();
        clearOfLaterSessions();
        clearWithLoopAndBest();
        clearOfWays();
    }

    private static void clearOfNothing() {
        Sentence s = new Sentence(2, AS_AT_FIRST);
        FollowScore x = new FollowScore();
        x.clear();
        x.clear();
        s.due("nothing to clear", Sight.of(x), Sight.of(new FollowScore()));
    }

    private static FollowScore fullAndCleared() {
        FollowScore x = twelveWays();
        for (int i = 8; i < 60; i++) x.note(i, 100 + i);
        Scores.costs(x, 9, 8, 7, 6, 5);
        x.span(100);
        for (int i = 0; i < 120; i++) x.hear(60 + i % 13, 10000000);
        x.align();
        x.clear();
        return x;
    }

    private static void clearOfAFullObject() {
        Sentence s = new Sentence(2, AS_AT_FIRST);
        s.due("what was full", Sight.of(fullAndCleared()), Sight.of(new FollowScore()));
        s.due("and is used again", Sight.of(fourFrom(fullAndCleared())), Sight.of(fourFrom(new FollowScore())));
    }

    /** Four notes, a WAY and some EVENTS; nothing else is set, so what was left over would show. */
    private static FollowScore fourFrom(FollowScore x) {
        for (int i = 0; i < 4; i++) x.note(60 + i, i);
        x.way(3, 0);
        Scores.hear(x, 60, 61, 0, 63, 60, 62);
        return x;
    }

    private static FollowScore playedAndCleared() {
        FollowScore x = Scores.scale(3);
        for (int session = 0; session < 6; session++) {
            Scores.hear(x, 60, 1);
            x.align();
            x.end();
        }
        x.clear();
        return x;
    }

    private static void clearOfLaterSessions() {
        Sentence s = new Sentence(2, AS_AT_FIRST);
        s.due("told(4) ahead of it", playedTwice().told(4), 2);
        s.due("sessions and BOXES", Sight.of(playedAndCleared()), Sight.of(new FollowScore()));
        s.due("BOXES of new notes", Sight.of(fourFrom(playedAndCleared())), Sight.of(fourFrom(new FollowScore())));
    }

    private static FollowScore playedTwice() {
        FollowScore x = Scores.scale(1);
        for (int session = 0; session < 2; session++) {
            Scores.hear(x, 60);
            x.align();
            x.end();
        }
        return x;
    }

    private static void clearWithLoopAndBest() {
        Sentence s = new Sentence(2, AS_AT_FIRST);
        FollowScore x = fourWithLoopAndEvent();
        s.due("align() ahead of it", x.align(), 0);
        x.clear();
        s.due("with a LOOP and THE BEST", Sight.of(x), Sight.of(new FollowScore()));
        FollowScore y = fourWithLoopAndEvent();
        y.align();
        y.clear();
        s.due("note 0 may start at 0 again", y.note(60, 0), 0);
        s.due("steps()", y.steps(), STATE);
        s.due("the TIME may be 0 again", y.hear(60, 0), 0);
    }

    /** Note 1 twice: with the WAY note 0 is passed on the way back, without it the second one is EXTRA. */
    private static int sumOfTheLastNoteTwice(FollowScore x, boolean withWay) {
        x.note(60, 0);
        x.note(62, 1);
        if (withWay) x.way(1, 0);
        Scores.costs(x, 1000, 900, 1, 1, 1000);
        Scores.hear(x, 60, 62, 62);
        return x.align();
    }

    private static void clearOfWays() {
        Sentence s = new Sentence(2, AS_AT_FIRST);
        FollowScore x = new FollowScore();
        s.due("back by a WAY", sumOfTheLastNoteTwice(x, true), 2);
        x.clear();
        s.due("no WAY any more", sumOfTheLastNoteTwice(x, false), 900);
    }

    // ---- promise 3

    private static void note() {
        noteNumbers();
        notePitch();
        noteStart();
        noteStartIsGreater();
        noteWithLoop();
        noteWithEvents();
        noteFull();
        noteFirstRefusal();
    }

    private static void noteNumbers() {
        Sentence s = new Sentence(3, "One more note: its number.");
        FollowScore x = new FollowScore();
        for (int i = 0; i < 60; i++) {
            s.due("note " + i, x.note(127 - i, 10 * i), i);
            s.due("told(0)", x.told(0), i + 1);
        }
        s.due("of(0, 0)", x.of(0, 0), 127);
        s.due("of(59, 0)", x.of(59, 0), 68);
        s.due("of(59, 1)", x.of(59, 1), 590);
    }

    private static void notePitch() {
        Sentence s = new Sentence(3, "each a PITCH 0 .. 127 and a START 0 .. 1000000");
        s.due("note(0, 0)", new FollowScore().note(0, 0), 0);
        s.due("note(127, 0)", new FollowScore().note(127, 0), 0);
        for (int pitch : new int[] {-1, 128, LEAST, MOST}) {
            s.refused("note(" + pitch + ", 0)", ScoreSentencesTest::empty, x -> x.note(pitch, 0), RANGE);
            s.refused("note(" + pitch + ", 100)", ScoreSentencesTest::four, x -> x.note(pitch, 100), RANGE);
        }
    }

    private static void noteStart() {
        Sentence s = new Sentence(3, "START 0 .. 1000000");
        s.due("note(60, 0)", new FollowScore().note(60, 0), 0);
        s.due("note(60, 1000000)", new FollowScore().note(60, 1000000), 0);
        s.due("note(60, 1000000) as the fifth", four().note(60, 1000000), 4);
        for (int start : new int[] {-1, 1000001, LEAST, MOST}) {
            s.refused("note(60, " + start + ")", ScoreSentencesTest::empty, x -> x.note(60, start), RANGE);
            s.refused("note(60, " + start + ")", ScoreSentencesTest::four, x -> x.note(60, start), RANGE);
        }
    }

    private static void noteStartIsGreater() {
        Sentence s = new Sentence(3, "RANGE (also if START is not greater than that of the one before)");
        s.due("one more than 30", four().note(60, 31), 4);
        s.refused("as much as 30", ScoreSentencesTest::four, x -> x.note(60, 30), RANGE);
        s.refused("one less than 30", ScoreSentencesTest::four, x -> x.note(60, 29), RANGE);
        s.refused("0", ScoreSentencesTest::four, x -> x.note(60, 0), RANGE);
        FollowScore x = new FollowScore();
        s.due("the greatest one", x.note(60, 1000000), 0);
        s.due("none is greater", x.note(60, 1000000), RANGE);
        FollowScore y = new FollowScore();
        y.note(60, 0);
        s.due("0 behind 0", y.note(60, 0), RANGE);
        s.due("1 behind 0", y.note(60, 1), 1);
    }

    private static void noteWithLoop() {
        Sentence s = new Sentence(3, "STATE: also with a LOOP");
        s.refused("a right note", ScoreSentencesTest::fourWithLoop, x -> x.note(60, 100), STATE);
        s.refused("a wrong pitch", ScoreSentencesTest::fourWithLoop, x -> x.note(128, 100), RANGE);
        s.refused("a wrong start", ScoreSentencesTest::fourWithLoop, x -> x.note(60, 30), RANGE);
        s.refused("no room, too", ScoreSentencesTest::sixtyWithLoop, x -> x.note(60, 100), STATE);
        FollowScore x = fourWithLoop();
        x.loop(NONE, 0);
        s.due("the LOOP is gone", x.note(60, 100), 4);
    }

    private static void noteWithEvents() {
        Sentence s = new Sentence(3, "in all of these STATE: there are EVENTS");
        s.refused("a right note", ScoreSentencesTest::fourWithEvent, x -> x.note(60, 100), STATE);
        s.refused("a wrong pitch", ScoreSentencesTest::fourWithEvent, x -> x.note(-1, 100), RANGE);
        s.refused("a wrong start", ScoreSentencesTest::fourWithEvent, x -> x.note(60, 30), RANGE);
        s.refused("no room, too", ScoreSentencesTest::sixtyWithEvent, x -> x.note(60, 100), STATE);
        FollowScore x = fourWithEvent();
        x.cut(0);
        s.due("the EVENT is cut", x.note(60, 100), 4);
        FollowScore y = fourWithEvent();
        y.end();
        s.due("the session has ended", y.note(60, 100), 4);
    }

    private static void noteFull() {
        Sentence s = new Sentence(3, "FULL");
        Sentence most = new Sentence(3, "(60 at most)");
        most.due("told(0)", Scores.sixty().told(0), 60);
        s.refused("the 61st", Scores::sixty, x -> x.note(60, 100), FULL);
        s.refused("the 61st, a wrong pitch", Scores::sixty, x -> x.note(128, 100), RANGE);
        s.refused("the 61st, a wrong start", Scores::sixty, x -> x.note(60, 59), RANGE);
        FollowScore x = Scores.sixty();
        x.clear();
        s.due("cleared", x.note(60, 0), 0);
    }

    private static void noteFirstRefusal() {
        Sentence s = new Sentence(3, FIRST_THAT_FITS);
        s.refused("RANGE, STATE, FULL", ScoreSentencesTest::sixtyWithEvent, x -> x.note(128, 100), RANGE);
        s.refused("STATE, FULL", ScoreSentencesTest::sixtyWithEvent, x -> x.note(60, 100), STATE);
        s.refused("RANGE, FULL", Scores::sixty, x -> x.note(128, 100), RANGE);
        s.refused("RANGE, STATE", ScoreSentencesTest::fourWithEvent, x -> x.note(128, 100), RANGE);
        s.refused("FULL", Scores::sixty, x -> x.note(60, 100), FULL);
    }

    // ---- promise 4

    private static void way() {
        wayNumbers();
        wayRange();
        wayToAny();
        wayThereAlready();
        wayInLoop();
        wayWithEvents();
        wayFull();
        wayFirstRefusal();
    }

    private static void wayNumbers() {
        Sentence s = new Sentence(4, "One more WAY: its number.");
        FollowScore x = Scores.scale(8);
        for (int i = 0; i < 8; i++) s.due("way(7, " + i + ")", x.way(7, i), i);
        for (int i = 0; i < 4; i++) s.due("way(5, " + i + ")", x.way(5, i), 8 + i);
        s.due("told(1)", x.told(1), 12);
        Sentence order = new Sentence(4, "in the order in which they were told");
        FollowScore y = Scores.of(60, 60, 62);
        y.way(2, 1);
        y.way(2, 0);
        Scores.hear(y, 60, 60, 62, 60);
        y.align();
        order.due("the first of two that cost the same", y.matched(3), 1);
    }

    private static void wayRange() {
        Sentence s = new Sentence(4, "a number is not as told, or there is no such thing");
        for (int wrong : new int[] {-1, 4, LEAST, MOST}) {
            s.refused("way(" + wrong + ", 2)", ScoreSentencesTest::four, x -> x.way(wrong, 2), RANGE);
            s.refused("way(2, " + wrong + ")", ScoreSentencesTest::four, x -> x.way(2, wrong), RANGE);
        }
        s.refused("way(-1, 1)", ScoreSentencesTest::four, x -> x.way(-1, 1), RANGE);
        s.refused("way(-1, -1)", ScoreSentencesTest::four, x -> x.way(-1, -1), RANGE);
        s.refused("a wrap-around", ScoreSentencesTest::four, x -> x.way(MOST, LEAST), RANGE);
        s.refused("no notes", ScoreSentencesTest::empty, x -> x.way(0, 0), RANGE);
    }

    private static void wayToAny() {
        Sentence s = new Sentence(4, "RANGE (also if to is from + 1, or it is there already)");
        s.refused("way(0, 1)", ScoreSentencesTest::four, x -> x.way(0, 1), RANGE);
        s.refused("way(2, 3)", ScoreSentencesTest::four, x -> x.way(2, 3), RANGE);
        s.refused("way(3, 4)", ScoreSentencesTest::four, x -> x.way(3, 4), RANGE);
        Sentence any = new Sentence(4, "b being any but a + 1");
        any.due("way(1, 1)", four().way(1, 1), 1);
        any.due("way(1, 0)", four().way(1, 0), 1);
        any.due("way(1, 3)", four().way(1, 3), 1);
        any.due("way(0, 0)", four().way(0, 0), 1);
        any.due("way(3, 3)", four().way(3, 3), 1);
        any.due("way(0, 3)", four().way(0, 3), 1);
    }

    private static void wayThereAlready() {
        Sentence s = new Sentence(4, "or it is there already");
        s.refused("way(3, 0) again", ScoreSentencesTest::four, x -> x.way(3, 0), RANGE);
        s.due("the other way round", four().way(0, 3), 1);
        s.due("from the same note", four().way(3, 1), 1);
        s.due("to the same note", four().way(2, 0), 1);
        s.refused("the last of twelve again", ScoreSentencesTest::twelveWays, x -> x.way(5, 3), RANGE);
        s.refused("with an EVENT", ScoreSentencesTest::fourWithEvent, x -> x.way(3, 0), RANGE);
        FollowScore x = four();
        x.clear();
        for (int i = 0; i < 4; i++) x.note(60 + i, i);
        s.due("cleared", x.way(3, 0), 0);
    }

    private static void wayInLoop() {
        Sentence s = new Sentence(4, "WAYS not both ends of which are in it, are not there");
        s.due("both ends in it", sumByWay(2, 1, 62, 64, 62), 1);
        s.due("from out of it", sumByWay(0, 2, 62, 65, 64), 3);
        s.due("to out of it", sumByWay(2, 0, 62, 64, 60), 3);
        s.due("both ends out of it", sumByWay(4, 0, 62, 64, 60), 3);
        FollowScore x = fourWithLoop();
        s.due("a WAY is told with a LOOP", x.way(2, 1), 1);
        s.due("told(1)", x.told(1), 2);
        x.loop(NONE, 0);
        Scores.costs(x, 3, 1000, 1000, 1, 1000);
        Scores.hear(x, 60, 62, 64, 65, 60);
        s.due("those out of the LOOP are there again without it", x.align(), 1);
    }

    /** LOOP 1 to 3 of five notes and a WAY: the SUM of three EVENTS, EXTRA being 3, all else dear. */
    private static int sumByWay(int from, int to, int... pitches) {
        FollowScore x = Scores.scale(5);
        x.way(from, to);
        x.loop(1, 3);
        Scores.costs(x, 1000, 3, 1000, 1, 1000);
        Scores.hear(x, pitches);
        return x.align();
    }

    private static void wayWithEvents() {
        Sentence s = new Sentence(4, "STATE; FULL");
        s.refused("with an EVENT", ScoreSentencesTest::fourWithEvent, x -> x.way(2, 0), STATE);
        s.refused("with an EVENT, no such note", ScoreSentencesTest::fourWithEvent, x -> x.way(4, 0), RANGE);
        s.refused("with an EVENT, from + 1", ScoreSentencesTest::fourWithEvent, x -> x.way(1, 2), RANGE);
        s.refused("with an EVENT and full", ScoreSentencesTest::twelveWaysWithEvent, x -> x.way(6, 6), STATE);
        FollowScore x = fourWithEvent();
        x.cut(0);
        s.due("the EVENT is cut", x.way(2, 0), 1);
        FollowScore y = fourWithEvent();
        y.end();
        s.due("the session has ended", y.way(2, 0), 1);
        s.due("a LOOP is no matter", fourWithLoop().way(2, 0), 1);
    }

    private static void wayFull() {
        Sentence s = new Sentence(4, "WAYS (12 at most");
        s.due("told(1)", twelveWays().told(1), 12);
        s.refused("the 13th", ScoreSentencesTest::twelveWays, x -> x.way(6, 6), FULL);
        s.refused("the 13th, no such note", ScoreSentencesTest::twelveWays, x -> x.way(8, 0), RANGE);
        s.refused("the 13th, from + 1", ScoreSentencesTest::twelveWays, x -> x.way(0, 1), RANGE);
        s.refused("the 13th, there already", ScoreSentencesTest::twelveWays, x -> x.way(7, 0), RANGE);
    }

    private static void wayFirstRefusal() {
        Sentence s = new Sentence(4, FIRST_THAT_FITS);
        s.refused("RANGE, STATE, FULL", ScoreSentencesTest::twelveWaysWithEvent, x -> x.way(0, 1), RANGE);
        s.refused("STATE, FULL", ScoreSentencesTest::twelveWaysWithEvent, x -> x.way(6, 6), STATE);
        s.refused("RANGE, FULL", ScoreSentencesTest::twelveWays, x -> x.way(0, 1), RANGE);
        s.refused("RANGE, STATE", ScoreSentencesTest::fourWithEvent, x -> x.way(0, 1), RANGE);
        s.refused("FULL", ScoreSentencesTest::twelveWays, x -> x.way(6, 6), FULL);
    }

    // ---- promise 5

    private static void loop() {
        loopInPlace();
        loopNone();
        loopRange();
        loopNotBefore();
        loopState();
        loopNotesOutOfIt();
    }

    private static void loopInPlace() {
        Sentence s = new Sentence(5, "The LOOP is from one note to another one (in place of another LOOP)");
        FollowScore x = four();
        s.due("a first LOOP", x.loop(0, 3), 0);
        s.due("its first note", x.told(6), 0);
        s.due("its last note", x.told(7), 3);
        s.due("another one in place of it", x.loop(2, 3), 1);
        s.due("its first note", x.told(6), 2);
        s.due("its last note", x.told(7), 3);
        s.due("the same one again", x.loop(2, 3), 1);
        s.due("one that is over before that", x.loop(0, 1), 1);
        s.due("its first note", x.told(6), 0);
        s.due("its last note", x.told(7), 1);
    }

    private static void loopNone() {
        Sentence s = new Sentence(5, "none, if from is NONE: whether there was one (1, 0)");
        FollowScore x = fourWithLoop();
        s.due("there was one", x.loop(NONE, 0), 1);
        s.due("told(6)", x.told(6), NONE);
        s.due("told(7)", x.told(7), NONE);
        s.due("there was none", x.loop(NONE, 0), 0);
        s.due("a new one", x.loop(1, 2), 0);
        s.due("none without notes", new FollowScore().loop(NONE, 0), 0);
        s.due("to is NONE, too", fourWithLoop().loop(NONE, NONE), 1);
    }

    private static void loopRange() {
        Sentence s = new Sentence(5, "RANGE; STATE");
        for (int wrong : new int[] {-2, 4, LEAST, MOST}) {
            s.refused("loop(" + wrong + ", 3)", ScoreSentencesTest::four, x -> x.loop(wrong, 3), RANGE);
            s.refused("loop(0, " + wrong + ")", ScoreSentencesTest::four, x -> x.loop(0, wrong), RANGE);
            s.refused("loop(0, " + wrong + "), one being there", ScoreSentencesTest::fourWithLoop,
                    x -> x.loop(0, wrong), RANGE);
        }
        s.refused("loop(0, NONE)", ScoreSentencesTest::fourWithLoop, x -> x.loop(0, NONE), RANGE);
        s.refused("loop(4, 4)", ScoreSentencesTest::four, x -> x.loop(4, 4), RANGE);
        s.refused("no notes", ScoreSentencesTest::empty, x -> x.loop(0, 0), RANGE);
        s.due("the first and the last note", four().loop(0, 3), 0);
    }

    private static void loopNotBefore() {
        Sentence s = new Sentence(5, "from one note to another one that is not before it");
        s.refused("loop(2, 1)", ScoreSentencesTest::four, x -> x.loop(2, 1), RANGE);
        s.refused("loop(3, 0), one being there", ScoreSentencesTest::fourWithLoop, x -> x.loop(3, 0), RANGE);
        s.due("loop(1, 2)", four().loop(1, 2), 0);
        s.due("loop(2, 2)", four().loop(2, 2), 0);
        FollowScore x = Scores.scale(3);
        x.loop(1, 1);
        Scores.hear(x, 62, 62, 62);
        s.due("one note round and round", x.align(), 0);
    }

    private static void loopState() {
        Sentence s = new Sentence(5, "in all of these STATE: there are EVENTS");
        s.refused("a LOOP", ScoreSentencesTest::fourWithEvent, x -> x.loop(0, 3), STATE);
        s.refused("no LOOP", ScoreSentencesTest::fourWithEvent, x -> x.loop(NONE, 0), STATE);
        s.refused("another LOOP", ScoreSentencesTest::fourWithLoopAndEvent, x -> x.loop(0, 3), STATE);
        s.refused("none in place of it", ScoreSentencesTest::fourWithLoopAndEvent, x -> x.loop(NONE, 0), STATE);
        s.refused("no such note", ScoreSentencesTest::fourWithEvent, x -> x.loop(0, 4), RANGE);
        s.refused("one before it", ScoreSentencesTest::fourWithEvent, x -> x.loop(1, 0), RANGE);
        FollowScore x = fourWithLoopAndEvent();
        x.cut(0);
        s.due("the EVENT is cut", x.loop(0, 3), 1);
        FollowScore y = fourWithLoopAndEvent();
        y.align();
        y.end();
        s.due("the session has ended, the LOOP has not", y.loop(NONE, 0), 1);
    }

    private static void loopNotesOutOfIt() {
        Sentence s = new Sentence(5, "then notes out of it");
        FollowScore x = Scores.scale(5);
        Scores.costs(x, 1000, 3, 1000, 1, 0);
        x.loop(1, 3);
        Scores.hear(x, 60, 62, 65, 67);
        s.due("one before and one behind it are EXTRA", x.align(), 6);
        s.due("matched(0)", x.matched(0), NONE);
        s.due("the first note of it", x.matched(1), 1);
        s.due("the last note of it", x.matched(2), 3);
        s.due("matched(3)", x.matched(3), NONE);
        s.due("values", x.valueOf(0) + " " + x.valueOf(4), "-1 -1");
        FollowScore later = Scores.scale(5);
        Scores.hear(later, 60, 62, 64, 65, 67);
        later.align();
        later.end();
        later.loop(1, 2);
        Scores.hear(later, 62, 64);
        s.due("behind a session without it", Scores.values(later, 5), "4 -1 2 0 -1 -1");
        s.due("the one behind it", later.hear(65, 100), 2);
        s.due("values", Scores.values(later, 5), "6 -1 3 2 -1 -1");
        later.cut(0);
        later.loop(NONE, 0);
        Scores.hear(later, 60, 62, 64);
        s.due("there again without it", later.hear(65, 100), 3);
    }

    // ---- promise 6

    private static void cost() {
        costAnswers();
        costRange();
        costAtLeastOne();
        costState();
    }

    private static void costAnswers() {
        Sentence s = new Sentence(6, "COST which becomes v: what it was.");
        FollowScore x = new FollowScore();
        int[] first = {3, 2, 2, 1, 6};
        for (int which = 0; which <= 4; which++) {
            s.due("cost(" + which + ", 1000)", x.cost(which, 1000), first[which]);
            s.due("cost(" + which + ", 1)", x.cost(which, 1), 1000);
            s.due("cost(" + which + ", " + (5 + which) + ")", x.cost(which, 5 + which), 1);
        }
        for (int which = 0; which <= 4; which++) s.due("of its own", x.cost(which, 1), 5 + which);
        FollowScore y = Scores.of(60, 62, 64);
        y.way(2, 2);
        Scores.costs(y, 100, 20, 9, 4, 70);
        Scores.hear(y, 1);
        s.due("EXTRA, SKIP", Scores.values(y, 3), "20 29 38 47");
        y.cut(0);
        y.cost(1, 1000);
        Scores.hear(y, 1);
        s.due("WRONG", Scores.values(y, 3), "1000 100 109 118");
        y.cut(0);
        y.cost(1, 20);
        y.cut(0);
        Scores.hear(y, 60, 62, 64, 64);
        s.due("WAY", y.align(), 4);
        y.cut(0);
        Scores.hear(y, 64);
        s.due("two PASSES", y.align(), 18);
        y.cut(0);
        y.cost(2, 36);
        y.cost(1, 71);
        Scores.hear(y, 64);
        s.due("LEAP", y.align(), 70);
    }

    private static void costRange() {
        Sentence s = new Sentence(6, "RANGE; STATE");
        for (int which : new int[] {-1, 5, LEAST, MOST}) {
            s.refused("cost(" + which + ", 1)", ScoreSentencesTest::four, x -> x.cost(which, 1), RANGE);
        }
        Sentence each = new Sentence(6, "0 .. 1000 each");
        for (int which = 0; which <= 4; which++) {
            int cost = which;
            for (int v : new int[] {-1, 1001, LEAST, MOST}) {
                each.refused("cost(" + cost + ", " + v + ")", ScoreSentencesTest::four, x -> x.cost(cost, v), RANGE);
            }
            each.due("cost(" + cost + ", 1000)", four().cost(cost, 1000), 9 - cost);
        }
    }

    private static void costAtLeastOne() {
        Sentence s = new Sentence(6, "(EXTRA and SKIP 1 at least)");
        s.refused("cost(1, 0)", ScoreSentencesTest::four, x -> x.cost(1, 0), RANGE);
        s.refused("cost(2, 0)", ScoreSentencesTest::four, x -> x.cost(2, 0), RANGE);
        s.due("cost(1, 1)", four().cost(1, 1), 8);
        s.due("cost(2, 1)", four().cost(2, 1), 7);
        for (int which : new int[] {0, 3, 4}) {
            FollowScore x = four();
            s.due("cost(" + which + ", 0)", x.cost(which, 0), 9 - which);
            s.due("cost(" + which + ", 0) again", x.cost(which, 0), 0);
        }
    }

    private static void costState() {
        Sentence s = new Sentence(6, "in all of these STATE: there are EVENTS");
        for (int which = 0; which <= 4; which++) {
            int cost = which;
            s.refused("cost(" + cost + ", 1)", ScoreSentencesTest::fourWithEvent, x -> x.cost(cost, 1), STATE);
            s.refused("cost(" + cost + ", 1001)", ScoreSentencesTest::fourWithEvent, x -> x.cost(cost, 1001), RANGE);
        }
        s.refused("cost(1, 0)", ScoreSentencesTest::fourWithEvent, x -> x.cost(1, 0), RANGE);
        s.refused("cost(5, 1)", ScoreSentencesTest::fourWithEvent, x -> x.cost(5, 1), RANGE);
        FollowScore x = fourWithEvent();
        x.cut(0);
        s.due("the EVENT is cut", x.cost(0, 1), 9);
        FollowScore y = fourWithEvent();
        y.end();
        s.due("the session has ended", y.cost(0, 1), 9);
        s.due("a LOOP is no matter", fourWithLoop().cost(0, 1), 9);
        s.due("no notes are no matter", new FollowScore().cost(0, 1), 3);
    }

    // ---- promise 7

    private static void span() {
        Sentence s = new Sentence(7, "The SPAN (0 .. 100): what it was.");
        FollowScore x = new FollowScore();
        s.due("span(0)", x.span(0), 8);
        s.due("told(8)", x.told(8), 0);
        s.due("span(100)", x.span(100), 0);
        s.due("told(8)", x.told(8), 100);
        s.due("span(100) again", x.span(100), 100);
        for (int wrong : new int[] {-1, 101, LEAST, MOST}) {
            s.refused("span(" + wrong + ")", ScoreSentencesTest::four, y -> y.span(wrong), RANGE);
        }
        spanOfPlaces();
        spanState();
    }

    private static void spanOfPlaces() {
        Sentence s = new Sentence(7, "places whose numbers are more than SPAN from THE PLACE have no VALUE");
        s.due("0", valuesBySpan(0), "-1 -1 -1 -1 0 -1 -1 -1 -1");
        s.due("1", valuesBySpan(1), "-1 -1 -1 3 0 3 -1 -1 -1");
        s.due("3", valuesBySpan(3), "-1 3 3 3 0 3 3 3 -1");
        s.due("4", valuesBySpan(4), "2 3 3 3 0 3 3 3 3");
        s.due("100", valuesBySpan(100), "2 3 3 3 0 3 3 3 3");
    }

    /** By a LEAP without cost THE PLACE is note 3, in the middle of eight. */
    private static String valuesBySpan(int span) {
        FollowScore x = Scores.scale(8);
        x.cost(4, 0);
        x.span(span);
        x.hear(65, 0);
        return Scores.values(x, 8);
    }

    private static void spanState() {
        Sentence s = new Sentence(7, "RANGE; STATE");
        s.refused("with an EVENT", ScoreSentencesTest::fourWithEvent, x -> x.span(1), STATE);
        s.refused("as it is", ScoreSentencesTest::fourWithEvent, x -> x.span(8), STATE);
        s.refused("with an EVENT, 101", ScoreSentencesTest::fourWithEvent, x -> x.span(101), RANGE);
        s.refused("with an EVENT, -1", ScoreSentencesTest::fourWithEvent, x -> x.span(-1), RANGE);
        FollowScore x = fourWithEvent();
        x.cut(0);
        s.due("the EVENT is cut", x.span(1), 8);
        FollowScore y = fourWithEvent();
        y.end();
        s.due("the session has ended", y.span(1), 8);
        s.due("a LOOP is no matter", fourWithLoop().span(1), 8);
    }
}
