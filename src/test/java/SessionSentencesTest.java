import java.io.IOException;

/** Promises 8 to 12, sentence by sentence: each boundary case that a sentence names is tested here. */
public final class SessionSentencesTest {
    private static final int NONE = -1, RANGE = -2, STATE = -3, FULL = -4;
    private static final int LEAST = Integer.MIN_VALUE, MOST = Integer.MAX_VALUE;
    private static final int[] TUNE = {60, 64, 64, 61, 65, 60, 60, 69, 60, 62};

    public static void main(String[] args) throws IOException {
        hear();
        nexts();
        thePlace();
        cut();
        valueOf();
        tempo();
        anchors();
        ahead();
        Sentence.covered(8, 12);
        Check.finish();
    }

    // ---- objects in which calls are refused

    private static FollowScore empty() {
        return new FollowScore();
    }

    private static FollowScore four() {
        FollowScore x = Scores.scale(4);
        x.way(3, 0);
        return x;
    }

    /** Two EVENTS, the latter at 500, and THE BEST is known. */
    private static FollowScore fourHeard() {
        FollowScore x = four();
        x.hear(60, 400);
        x.hear(62, 500);
        x.align();
        return x;
    }

    private static FollowScore fullHeard() {
        FollowScore x = four();
        for (int i = 0; i < 120; i++) x.hear(Scores.SCALE[i % 4], 500);
        x.align();
        return x;
    }

    private static FollowScore loopOneToTwo() {
        FollowScore x = Scores.scale(4);
        x.loop(1, 2);
        return x;
    }

    // ---- promise 8

    private static void hear() {
        hearAnswers();
        hearPitch();
        hearTime();
        hearNotEarlier();
        hearWithoutNotes();
        hearFull();
    }

    private static void hearAnswers() {
        Sentence s = new Sentence(8, "An EVENT: THE PLACE then.");
        FollowScore x = four();
        s.due("a wrong note ahead of all", x.hear(0, 0), -1);
        s.due("told(3)", x.told(3), -1);
        s.due("told(2)", x.told(2), 1);
        s.due("note 0", x.hear(60, 0), 0);
        s.due("told(3)", x.told(3), 0);
        s.due("note 1", x.hear(62, 0), 1);
        s.due("a wrong note", x.hear(127, 0), 1);
        s.due("told(2)", x.told(2), 4);
        s.due("a score of one note", Scores.scale(1).hear(60, 0), 0);
        FollowScore y = Scores.sixty();
        y.cost(4, 0);
        s.due("the last of all notes", y.hear(59, 0), 59);
        y.align();
        y.hear(59, 0);
        s.due("THE BEST is not known any more", y.steps(), STATE);
    }

    private static void hearPitch() {
        Sentence s = new Sentence(8, "RANGE; STATE: there are no notes");
        FollowScore x = Scores.of(0, 127);
        s.due("hear(0, 0)", x.hear(0, 0), 0);
        s.due("hear(127, 0)", x.hear(127, 0), 1);
        for (int pitch : new int[] {-1, 128, LEAST, MOST}) {
            s.refused("hear(" + pitch + ", 0)", SessionSentencesTest::four, y -> y.hear(pitch, 0), RANGE);
            s.refused("hear(" + pitch + ", 500)", SessionSentencesTest::fourHeard, y -> y.hear(pitch, 500), RANGE);
        }
    }

    private static void hearTime() {
        Sentence s = new Sentence(8, "a TIME 0 .. 10000000");
        s.due("hear(60, 0)", four().hear(60, 0), 0);
        s.due("hear(60, 10000000)", four().hear(60, 10000000), 0);
        s.due("hear(64, 10000000) as the third", fourHeard().hear(64, 10000000), 2);
        for (int time : new int[] {-1, 10000001, LEAST, MOST}) {
            s.refused("hear(60, " + time + ")", SessionSentencesTest::four, x -> x.hear(60, time), RANGE);
            s.refused("hear(60, " + time + ")", SessionSentencesTest::fourHeard, x -> x.hear(60, time), RANGE);
        }
    }

    private static void hearNotEarlier() {
        Sentence s = new Sentence(8, "not less than that of the one before");
        s.due("as late as 500", fourHeard().hear(64, 500), 2);
        s.due("one later", fourHeard().hear(64, 501), 2);
        s.refused("one earlier", SessionSentencesTest::fourHeard, x -> x.hear(64, 499), RANGE);
        s.refused("0", SessionSentencesTest::fourHeard, x -> x.hear(64, 0), RANGE);
        FollowScore late = four();
        late.hear(60, 10000000);
        s.due("the latest TIME once more", late.hear(62, 10000000), 1);
        FollowScore x = fourHeard();
        x.cut(1);
        s.due("earlier than what was left", x.hear(62, 399), RANGE);
        s.due("earlier than what was cut", x.hear(62, 400), 1);
        x.cut(0);
        s.due("all was cut", x.hear(60, 0), 0);
        FollowScore y = fourHeard();
        y.end();
        s.due("in the next session", y.hear(60, 0), 0);
    }

    private static void hearWithoutNotes() {
        Sentence s = new Sentence(8, "STATE: there are no notes");
        s.refused("no notes", SessionSentencesTest::empty, x -> x.hear(60, 0), STATE);
        s.refused("no notes, a wrong pitch", SessionSentencesTest::empty, x -> x.hear(128, 0), RANGE);
        s.refused("no notes, a wrong time", SessionSentencesTest::empty, x -> x.hear(60, -1), RANGE);
        FollowScore x = four();
        x.clear();
        s.due("no notes any more", x.hear(60, 0), STATE);
    }

    private static void hearFull() {
        Sentence s = new Sentence(8, "FULL");
        Sentence most = new Sentence(8, "EVENTS 0, 1, .. (120 at most)");
        most.due("told(2)", fullHeard().told(2), 120);
        s.refused("the 121st", SessionSentencesTest::fullHeard, x -> x.hear(60, 500), FULL);
        s.refused("the 121st, a wrong pitch", SessionSentencesTest::fullHeard, x -> x.hear(128, 500), RANGE);
        s.refused("the 121st, a wrong time", SessionSentencesTest::fullHeard, x -> x.hear(60, 499), RANGE);
        FollowScore x = fullHeard();
        x.cut(119);
        most.due("the 120th again", x.hear(65, 500), 3);
        most.due("and no more", x.hear(60, 500), FULL);
        FollowScore y = fullHeard();
        y.end();
        most.due("the next session has room", y.hear(60, 0), 0);
    }

    // ---- promise 8: the VALUES

    private static void nexts() {
        nextOfTheFirstPlace();
        nextOfTheLastNote();
        nextRoundTheLoop();
        passes();
        noValueToComeFrom();
        farPlacesAreNotComeFrom();
        leapsAreThere();
    }

    /** All but the STEPS that a test looks at are dear; the dearest of all is to do nothing. */
    private static void dear(FollowScore x) {
        Scores.costs(x, 900, 1000, 1000, 1000, 1000);
        x.span(100);
    }

    private static void nextOfTheFirstPlace() {
        Sentence s = new Sentence(8, "(of -1 note 0; with a LOOP its first note)");
        FollowScore x = Scores.scale(4);
        dear(x);
        s.due("note 0", x.hear(60, 0), 0);
        s.due("its VALUE", x.valueOf(0), 0);
        FollowScore y = loopOneToTwo();
        dear(y);
        s.due("note 1", y.hear(62, 0), 1);
        s.due("its VALUE", y.valueOf(1), 0);
        FollowScore z = Scores.scale(4);
        z.loop(3, 3);
        dear(z);
        s.due("note 3", z.hear(65, 0), 3);
        s.due("its VALUE", z.valueOf(3), 0);
    }

    private static void nextOfTheLastNote() {
        Sentence s = new Sentence(8, "the note behind it, if it is there");
        FollowScore x = Scores.scale(2);
        dear(x);
        Scores.hear(x, 60, 62);
        s.due("no note behind the last", x.hear(62, 100), 1);
        s.due("so it is EXTRA", Scores.values(x, 2), "3000 1900 1000");
        FollowScore y = loopOneToTwo();
        dear(y);
        Scores.hear(y, 62, 64);
        s.due("the one behind the LOOP is not there", y.hear(65, 100), 1);
        s.due("note 1, wrong", y.valueOf(1), 900);
        s.due("note 3", y.valueOf(3), NONE);
    }

    private static void nextRoundTheLoop() {
        Sentence s = new Sentence(8, "with a LOOP, of its last note, its first one, at the PRICE 0");
        FollowScore x = loopOneToTwo();
        dear(x);
        Scores.hear(x, 62, 64, 62, 64);
        s.due("round and round", x.hear(62, 100), 1);
        s.due("for nothing", x.valueOf(1), 0);
        FollowScore y = Scores.scale(4);
        dear(y);
        y.loop(0, 3);
        Scores.hear(y, 60, 62, 64, 65);
        s.due("round all notes", y.hear(60, 100), 0);
        s.due("for nothing", y.valueOf(0), 0);
        Sentence way = new Sentence(8, "by each WAY that is there from it, at the PRICE WAY");
        FollowScore z = Scores.scale(4);
        dear(z);
        z.way(3, 0);
        z.cost(3, 7);
        Scores.hear(z, 60, 62, 64, 65);
        way.due("back by a WAY", z.hear(60, 100), 0);
        way.due("its cost", z.valueOf(0), 7);
    }

    private static void passes() {
        Sentence s = new Sentence(8, "by any number of PASSES, then one STEP that takes the EVENT");
        FollowScore x = Scores.sixty();
        Scores.costs(x, 1000, 1000, 1, 1000, 1000);
        s.due("no PASS", x.hear(0, 0), 0);
        x.cut(0);
        s.due("59 PASSES", x.hear(59, 0), 59);
        s.due("the VALUE", x.valueOf(59), 59);
        FollowScore y = Scores.sixty();
        Scores.costs(y, 1000, 1000, 1, 1000, 1000);
        y.loop(0, 59);
        Scores.hear(y, 59);
        s.due("58 PASSES round the LOOP", y.hear(58, 100), 58);
        s.due("the VALUE", y.valueOf(58), 59 + 58);
        FollowScore z = Scores.scale(3);
        Scores.costs(z, 1000, 5, 1, 1000, 1000);
        s.due("PASSES, then an EXTRA", z.hear(1, 0), -1);
        s.due("the VALUES", Scores.values(z, 3), "5 6 7 8");
        FollowScore w = Scores.scale(4);
        Scores.costs(w, 1000, 1000, 30, 7, 1000);
        w.way(3, 1);
        Scores.hear(w, 60, 62, 64, 65);
        s.due("a PASS by a WAY", w.hear(64, 100), 2);
        s.due("the VALUE", w.valueOf(2), 37);
    }

    private static void noValueToComeFrom() {
        Sentence s = new Sentence(8, "(none, if there is no VALUE to come from)");
        FollowScore x = Scores.scale(8);
        x.cost(4, 0);
        x.span(7);
        s.due("a LEAP to the last note", x.hear(72, 0), 7);
        s.due("-1 is too far", x.valueOf(-1), NONE);
        s.due("a LEAP to the first one", x.hear(60, 0), 0);
        s.due("-1 is near, but has no VALUE any more", x.valueOf(-1), NONE);
        s.due("the others have one", x.valueOf(7), 2);
    }

    private static void farPlacesAreNotComeFrom() {
        Sentence s = new Sentence(8, "places whose numbers are more than SPAN from THE PLACE have no VALUE");
        s.due("SPAN 2: on from note 2", placeBehindAPassedNote(2), 3);
        s.due("SPAN 1: note 2 has no VALUE", placeBehindAPassedNote(1), 0);
    }

    /** Behind the second EVENT notes 0 and 2 have the same VALUE, and THE PLACE is still 0. */
    private static int placeBehindAPassedNote(int span) {
        FollowScore x = Scores.scale(5);
        x.span(span);
        Scores.hear(x, 60, 64);
        return x.hear(65, 100);
    }

    private static void leapsAreThere() {
        Sentence s = new Sentence(8, "3 LEAP: to any note that is there");
        FollowScore x = Scores.scale(5);
        x.cost(4, 0);
        x.loop(1, 3);
        s.due("to the last note of the LOOP", x.hear(65, 0), 3);
        s.due("to the first note of the LOOP", x.hear(62, 0), 1);
        s.due("to where it is", x.hear(62, 0), 1);
        s.due("its VALUE", x.valueOf(1), 0);
        s.due("not behind the LOOP", x.hear(67, 0), 1);
        s.due("not ahead of it", x.hear(60, 0), 1);
        s.due("by an EXTRA each", x.valueOf(1), 4);
    }

    // ---- promise 8: THE PLACE

    private static void thePlace() {
        Sentence s = new Sentence(8, "of several the one whose number is nearest to THE PLACE before and 1,"
                + " then the lesser");
        FollowScore x = Scores.of(60, 60, 60, 60);
        x.cost(4, 0);
        s.due("all are alike: note 0 from -1", x.hear(60, 0), 0);
        s.due("note 1 from 0", x.hear(60, 0), 1);
        s.due("note 2 from 1", x.hear(60, 0), 2);
        s.due("note 3 from 2", x.hear(60, 0), 3);
        s.due("none is behind the last, so it again", x.hear(60, 0), 3);
        s.due("of 0 and 2 at the same distance from 1", placeFromNoteZero(60, 64, 60), 0);
        s.due("of 0 and 3 the one that is nearer to 1", placeFromNoteZero(60, 64, 64, 60), 0);
        s.due("of 1 and 2 the one that is nearer to 1", placeFromNoteZero(64, 60, 60), 1);
        s.due("of 2 and 3 the one that is nearer to 1", placeFromNoteZero(64, 64, 60, 60), 2);
        FollowScore y = Scores.of(60, 62, 60, 64, 60);
        y.cost(4, 0);
        Scores.hear(y, 60, 62);
        s.due("of 0, 2 and 4 the one that is expected", y.hear(60, 100), 2);
        FollowScore z = Scores.of(60, 64, 66);
        Scores.costs(z, 2, 2, 1000, 1, 1000);
        s.due("of -1 and 0 the one that is expected", z.hear(1, 0), 0);
        Sentence least = new Sentence(8, "THE PLACE (-1 at first) becomes the one with the least VALUE");
        FollowScore w = Scores.of(60, 64, 66);
        Scores.costs(w, 3, 2, 1000, 1, 1000);
        least.due("-1 has less", w.hear(1, 0), -1);
    }

    /** THE PLACE behind an EVENT 60, LEAPS being without cost and note 0 THE PLACE before. */
    private static int placeFromNoteZero(int... pitches) {
        FollowScore x = Scores.of(pitches);
        Scores.costs(x, 500, 1000, 1000, 1000, 0);
        x.hear(pitches[0], 0);
        return x.hear(60, 0);
    }

    // ---- promise 9

    private static void cut() {
        cutGoesBack();
        cutKeepsTheRest();
        cutRange();
    }

    /** So many EVENTS of a tune that goes on, back, wrong and on. */
    private static FollowScore tune(int events) {
        FollowScore x = Scores.scale(6);
        x.way(3, 0);
        x.span(3);
        for (int i = 0; i < events; i++) x.hear(TUNE[i], 7 * i);
        return x;
    }

    private static void cutGoesBack() {
        Sentence s = new Sentence(9, "The first n EVENTS alone were heard (all is as it was behind them): THE PLACE.");
        for (int n = 0; n <= TUNE.length; n++) {
            FollowScore x = tune(TUNE.length);
            s.due("cut(" + n + ")", x.cut(n), tune(n).told(3));
            s.due("told(2) behind cut(" + n + ")", x.told(2), n);
            s.due("all behind cut(" + n + ")", Sight.of(x), Sight.of(tune(n)));
        }
        FollowScore twice = tune(8);
        twice.cut(6);
        twice.cut(3);
        s.due("cut twice", Sight.of(twice), Sight.of(tune(3)));
        FollowScore again = tune(8);
        again.cut(2);
        for (int i = 2; i < 5; i++) again.hear(TUNE[i], 7 * i);
        s.due("cut and heard again", Sight.of(again), Sight.of(tune(5)));
        FollowScore last = lastOfSixty(3);
        s.due("cut(1) with all notes", last.cut(1), 59);
        s.due("all behind it", Sight.of(last), Sight.of(lastOfSixty(1)));
        FollowScore full = fullHeard();
        s.due("cut(120) of all EVENTS", full.cut(120), 3);
        s.due("cut(119)", full.cut(119), 2);
        s.due("cut(1)", full.cut(1), 0);
        s.due("cut(0)", full.cut(0), NONE);
    }

    /** So many EVENTS with the PITCH of the last of all notes, LEAPS being without cost. */
    private static FollowScore lastOfSixty(int events) {
        FollowScore x = Scores.sixty();
        x.cost(4, 0);
        Scores.hearOften(x, events, 59, 0);
        return x;
    }

    private static void cutKeepsTheRest() {
        Sentence s = new Sentence(9, "(all is as it was behind them)");
        FollowScore x = fourHeard();
        x.end();
        Scores.hear(x, 60, 1);
        s.due("cut(0) in session 1", x.cut(0), NONE);
        s.due("told", Scores.told(x), "4 1 0 -1 1 0 -1 -1 8");
        s.due("BOX and DUE", Scores.box(x, 1), "1 2");
        s.due("the score may be changed", x.note(60, 100), 4);
    }

    private static void cutRange() {
        Sentence s = new Sentence(9, "RANGE: n is not 0 .. so many.");
        for (int n : new int[] {-1, 3, LEAST, MOST}) {
            s.refused("cut(" + n + ") of 2", SessionSentencesTest::fourHeard, x -> x.cut(n), RANGE);
        }
        for (int n : new int[] {-1, 1, LEAST, MOST}) {
            s.refused("cut(" + n + ") of none", SessionSentencesTest::four, x -> x.cut(n), RANGE);
            s.refused("cut(" + n + ") without notes", SessionSentencesTest::empty, x -> x.cut(n), RANGE);
        }
        s.refused("cut(121) of 120", SessionSentencesTest::fullHeard, x -> x.cut(121), RANGE);
        s.due("cut(0) of none", four().cut(0), NONE);
        s.due("cut(0) without notes", new FollowScore().cut(0), NONE);
    }

    // ---- promise 10

    private static void valueOf() {
        Sentence s = new Sentence(10, "The VALUE of a place; NONE.");
        FollowScore x = Scores.scale(3);
        s.due("at first", Scores.values(x, 3), "0 -1 -1 -1");
        x.hear(60, 0);
        s.due("behind an EVENT", Scores.values(x, 3), "2 0 5 7");
        FollowScore y = Scores.scale(3);
        y.span(0);
        y.hear(60, 0);
        s.due("too far", Scores.values(y, 3), "-1 0 -1 -1");
        Sentence range = new Sentence(10, "RANGE: there is no such note (one out of the LOOP has none), place.");
        for (int place : new int[] {-2, 4, LEAST, MOST}) {
            range.refused("valueOf(" + place + ")", SessionSentencesTest::fourHeard, z -> z.valueOf(place), RANGE);
        }
        range.refused("valueOf(0) without notes", SessionSentencesTest::empty, z -> z.valueOf(0), RANGE);
        range.due("valueOf(-1) without notes", new FollowScore().valueOf(-1), 0);
        range.due("valueOf(59) of 60", Scores.sixty().valueOf(59), NONE);
        range.due("valueOf(60) of 60", Scores.sixty().valueOf(60), RANGE);
        FollowScore loop = loopOneToTwo();
        range.due("out of the LOOP at first", loop.valueOf(0) + " " + loop.valueOf(3), "-1 -1");
        loop.hear(62, 0);
        range.due("out of the LOOP behind an EVENT", Scores.values(loop, 4), "2 -1 0 5 -1");
        range.due("no such note", loop.valueOf(4), RANGE);
    }

    // ---- promises 11 and 12: the ANCHORS

    private static FollowScore heardAt(int... times) {
        FollowScore x = Scores.scale(8);
        for (int i = 0; i < times.length; i++) x.hear(Scores.SCALE[i], times[i]);
        return x;
    }

    private static void tempo() {
        Sentence s = new Sentence(11, "TEMPO: TIME (side 0), START (side 1).");
        s.due("15 over 10", Scores.tempo(heardAt(0, 15)), "3/2");
        s.due("longest TIME", Scores.tempo(heardAt(0, 10000000)), "1000000/1");
        FollowScore far = new FollowScore();
        far.note(60, 0);
        far.note(62, 1000000);
        far.hear(60, 0);
        far.hear(62, 9999999);
        s.due("the greatest START, lowest terms already", Scores.tempo(far), "9999999/1000000");
        far.cut(1);
        far.hear(62, 10000000);
        s.due("the greatest START", Scores.tempo(far), "10/1");
        Sentence range = new Sentence(11, "RANGE.");
        for (int side : new int[] {-1, 2, LEAST, MOST}) {
            range.refused("tempo(" + side + ")", SessionSentencesTest::fourHeard, x -> x.tempo(side), RANGE);
            range.refused("tempo(" + side + ")", SessionSentencesTest::empty, x -> x.tempo(side), RANGE);
        }
        tempoOfFew();
        tempoWithoutTime();
        tempoOfTheLatest();
    }

    private static void tempoOfFew() {
        Sentence s = new Sentence(11, "with fewer than two: 1 over 1");
        s.due("no notes", Scores.tempo(new FollowScore()), "1/1");
        s.due("no EVENTS", Scores.tempo(heardAt()), "1/1");
        s.due("one ANCHOR", Scores.tempo(heardAt(70)), "1/1");
        s.due("two", Scores.tempo(heardAt(70, 90)), "2/1");
        FollowScore x = Scores.scale(3);
        Scores.hear(x, 1, 1);
        s.due("EVENTS, but no ANCHOR", x.told(5) + " " + Scores.tempo(x), "0 1/1");
    }

    private static void tempoWithoutTime() {
        Sentence s = new Sentence(11, "(lowest terms; 0 over 1 if no TIME went by)");
        s.due("two at one TIME", Scores.tempo(heardAt(70, 70)), "0/1");
        s.due("four at one TIME", Scores.tempo(heardAt(70, 70, 70, 70)), "0/1");
        s.due("the latest four at one TIME", Scores.tempo(heardAt(0, 70, 70, 70, 70)), "0/1");
        s.due("two at 0", Scores.tempo(heardAt(0, 0)), "0/1");
        s.due("1 over 10", Scores.tempo(heardAt(0, 1)), "1/10");
        s.due("12 over 20", Scores.tempo(heardAt(0, 1, 12)), "3/5");
        s.due("30 over 30", Scores.tempo(heardAt(0, 1, 12, 30)), "1/1");
    }

    private static void tempoOfTheLatest() {
        Sentence s = new Sentence(11, "from the first to the last of the latest four ANCHORS");
        s.due("three", Scores.tempo(heardAt(0, 100, 110)), "11/2");
        s.due("four", Scores.tempo(heardAt(0, 100, 110, 120)), "4/1");
        s.due("five", Scores.tempo(heardAt(0, 100, 110, 120, 131)), "31/30");
        s.due("eight", Scores.tempo(heardAt(0, 1, 2, 3, 10, 20, 30, 47)), "37/30");
        FollowScore x = Scores.sixty();
        for (int i = 0; i < 60; i++) x.hear(i, i < 57 ? i : 5000 + i);
        s.due("sixty", x.told(5) + " " + Scores.tempo(x), "60 5003/3");
    }

    private static void anchors() {
        Sentence s = new Sentence(11, "an EVENT whose THE PLACE is a note with its PITCH is one");
        FollowScore x = Scores.scale(4);
        x.hear(1, 0);
        s.due("THE PLACE is no note", x.told(3) + " " + x.told(5), "-1 0");
        x.hear(60, 10);
        s.due("note 0", x.told(5), 1);
        x.hear(1, 20);
        s.due("another PITCH", x.told(3) + " " + x.told(5), "0 1");
        x.hear(62, 30);
        s.due("note 1", x.told(5), 2);
        Sentence gone = new Sentence(11, "if that note is not behind the note of the ANCHOR before it,"
                + " the ANCHORS before it are none any more");
        x.hear(62, 50);
        gone.due("note 1 again", x.told(3) + " " + x.told(5), "1 1");
        gone.due("TEMPO", Scores.tempo(x), "1/1");
        x.hear(64, 55);
        gone.due("note 2", x.told(5) + " " + Scores.tempo(x), "2 1/2");
        FollowScore one = Scores.scale(4);
        one.hear(60, 10);
        one.hear(60, 30);
        gone.due("the only one again", one.told(5) + " " + Scores.tempo(one) + " " + one.ahead(1), "1 1/1 40");
        FollowScore y = Scores.scale(4);
        y.cost(4, 0);
        y.hear(62, 10);
        y.hear(65, 20);
        gone.due("from 1 on to 3", y.told(5) + " " + Scores.tempo(y), "2 1/2");
        y.hear(64, 30);
        gone.due("from 3 back to 2", y.told(5) + " " + Scores.tempo(y), "1 1/1");
        y.hear(65, 60);
        gone.due("and on to 3", y.told(5) + " " + Scores.tempo(y), "2 3/1");
        y.cut(2);
        gone.due("cut, they are there again", y.told(5) + " " + Scores.tempo(y), "2 1/2");
    }

    // ---- promise 12

    private static void ahead() {
        aheadOfNotes();
        aheadRoundedDown();
        aheadBelowZero();
        aheadRange();
        aheadState();
    }

    private static void aheadOfNotes() {
        Sentence s = new Sentence(12, "When a note is to be expected: the last ANCHOR's TIME, and by how much"
                + " the note's START is greater than that of the ANCHOR's note, times TEMPO");
        FollowScore x = heardAt(70);
        s.due("one ANCHOR: the note itself", x.ahead(0), 70);
        s.due("one ANCHOR: the last note", x.ahead(7), 140);
        FollowScore y = heardAt(70, 90);
        s.due("the note itself", y.ahead(1), 90);
        s.due("the one behind it", y.ahead(2), 110);
        s.due("the one before it", y.ahead(0), 70);
        y.hear(1, 200);
        s.due("an EVENT that is no ANCHOR", y.ahead(2), 110);
        FollowScore z = heardAt(70, 70);
        s.due("no TIME went by", z.ahead(0) + " " + z.ahead(7), "70 70");
        FollowScore far = new FollowScore();
        far.note(60, 0);
        far.note(62, 1);
        far.note(64, 1000000);
        far.hear(60, 0);
        far.hear(62, 10000000);
        s.due("beyond all ints", far.ahead(2), 10000000000000L);
    }

    private static void aheadRoundedDown() {
        Sentence s = new Sentence(12, "rounded down (below 0 as told by that)");
        FollowScore x = new FollowScore();
        int[] starts = {0, 1, 2, 3, 6, 7, 8, 9};
        for (int i = 0; i < starts.length; i++) x.note(Scores.SCALE[i], starts[i]);
        x.cost(4, 0);
        x.hear(65, 100);
        x.hear(67, 105);
        s.due("TEMPO", Scores.tempo(x), "5/3");
        s.due("105 and 5/3", x.ahead(5), 106);
        s.due("105 and 10/3", x.ahead(6), 108);
        s.due("105 and 15/3", x.ahead(7), 110);
        s.due("105 less 15/3", x.ahead(3), 100);
        s.due("105 less 20/3", x.ahead(2), 98);
        s.due("105 less 25/3", x.ahead(1), 96);
        s.due("105 less 30/3", x.ahead(0), 95);
    }

    private static void aheadBelowZero() {
        Sentence s = new Sentence(12, "(below 0 as told by that)");
        FollowScore x = new FollowScore();
        int[] starts = {0, 1, 2, 3, 4};
        for (int i = 0; i < starts.length; i++) x.note(Scores.SCALE[i], starts[i]);
        x.cost(4, 0);
        x.hear(67, 1);
        s.due("-1, which is not NONE", x.ahead(2), -1);
        s.due("-2, which is not RANGE", x.ahead(1), -2);
        s.due("-3, which is not STATE", x.ahead(0), -3);
        s.due("0", x.ahead(3), 0);
        FollowScore y = new FollowScore();
        y.note(60, 0);
        y.note(62, 999999);
        y.note(64, 1000000);
        y.cost(4, 0);
        y.hear(62, 0);
        y.hear(64, 10000000);
        s.due("far below 0", y.ahead(0), 10000000L - 10000000000000L);
    }

    private static void aheadRange() {
        Sentence s = new Sentence(12, "RANGE: no such note");
        for (int note : new int[] {-1, 4, LEAST, MOST}) {
            s.refused("ahead(" + note + ")", SessionSentencesTest::fourHeard, x -> x.ahead(note), RANGE);
            s.refused("ahead(" + note + "), no ANCHOR", SessionSentencesTest::four, x -> x.ahead(note), RANGE);
        }
        s.refused("no notes", SessionSentencesTest::empty, x -> x.ahead(0), RANGE);
        FollowScore x = loopOneToTwo();
        x.hear(62, 50);
        s.due("notes out of the LOOP are such notes", x.ahead(0) + " " + x.ahead(3), "40 70");
    }

    private static void aheadState() {
        Sentence s = new Sentence(12, "STATE: there is no ANCHOR.");
        s.refused("no EVENTS", SessionSentencesTest::four, x -> x.ahead(0), STATE);
        FollowScore x = four();
        x.hear(1, 0);
        s.due("an EVENT, but no ANCHOR", x.ahead(0), STATE);
        x.hear(60, 5);
        s.due("an ANCHOR", x.ahead(0), 5);
        x.cut(1);
        s.due("it is cut", x.ahead(0), STATE);
        FollowScore y = fourHeard();
        y.end();
        s.due("in the next session", y.ahead(0), STATE);
    }
}
