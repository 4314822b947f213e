import java.io.IOException;

/** What stands ahead of promise 1, sentence by sentence, from the document's first line on. */
public final class TermsSentencesTest {
    private static final int NONE = -1, RANGE = -2, STATE = -3, FULL = -4;

    public static void main(String[] args) throws IOException {
        whatItIs();
        manyCalls();
        objectsOfTheirOwn();
        notes();
        ways();
        loop();
        places();
        nexts();
        costs();
        events();
        courses();
        theBest();
        values();
        thePlace();
        anchors();
        boxes();
        refusals();
        calls();
        Sentence.covered(Sentence.HEAD, Sentence.HEAD);
        Check.finish();
    }

    private static Sentence of(String words) {
        return new Sentence(Sentence.HEAD, words);
    }

    // ---- what it is

    private static void whatItIs() {
        Sentence s = of("A player is followed through a score: where they are, event by event, within a span;"
                + " in the end the best of all ways in which what was heard may have been meant;"
                + " ways back, passed and wrong notes, leaps, loops; the tempo as a fraction and when notes come;"
                + " grades by whole numbers; which notes are due again.");
        FollowScore x = Scores.scale(5);
        x.way(2, 0);
        s.due("note 0", x.hear(60, 0), 0);
        s.due("note 1", x.hear(62, 15), 1);
        s.due("the tempo", Scores.tempo(x), "3/2");
        s.due("when note 4 comes", x.ahead(4), 60);
        s.due("note 2", x.hear(64, 30), 2);
        s.due("back", x.hear(60, 45), 0);
        s.due("note 1 is passed, so the place stays", x.hear(64, 60), 0);
        s.due("until the next note", x.hear(65, 75), 3);
        s.due("a wrong note for the last one", x.hear(66, 90), 3);
        s.due("the best of all ways", x.align(), 1 + 2 + 2);
        s.due("its steps", Scores.course(x),
                "0 0 0 0 | 0 1 1 0 | 0 2 2 0 | 0 0 3 1 | 2 1 -1 2 | 0 2 4 0 | 0 3 5 0 | 1 3 6 2");
        s.due("grades of note 1", Scores.grades(x, 1), "1 1 1");
        s.due("the mean", Scores.meanOf(x), "1/1");
        s.due("due again", x.end(), 2);
        s.due("notes 1 and 4", Scores.dueNotes(x), "1 4");
        x.loop(1, 2);
        Scores.hear(x, 62, 64);
        s.due("round a loop", x.hear(62, 100), 1);
        x.cut(0);
        x.loop(NONE, 0);
        x.cost(4, 1);
        s.due("a leap", x.hear(67, 0), 4);
    }

    private static void manyCalls() {
        Sentence s = of("An object is used for at most 512 calls after it has been made;"
                + " what later calls answer is free.");
        FollowScore x = Scores.sixty();
        x.loop(0, 59);
        int calls = 61;
        for (int session = 0; session < 3; session++) {
            for (int i = 0; i < 120; i++) s.due("EVENT " + i, x.hear(i % 60, i), i % 60);
            s.due("align()", x.align(), 0);
            s.due("end()", x.end(), 0);
            calls += 122;
        }
        int events = 509 - calls;
        for (int i = 0; i < events; i++) s.due("EVENT " + i, x.hear(i % 60, i), i % 60);
        s.due("the 510th call, an EXTRA", x.hear(127, events), events % 60 - 1);
        s.due("the 511th call", x.align(), 2);
        s.due("the 512th call", x.steps(), events + 1);
    }

    private static void objectsOfTheirOwn() {
        Sentence s = of("An object is used");
        FollowScore one = Scores.scale(3);
        FollowScore other = Scores.scale(4);
        one.cost(0, 9);
        one.hear(60, 5);
        s.due("the other one's COST", other.cost(0, 3), 3);
        other.way(3, 0);
        other.loop(1, 2);
        s.due("the other one's TIME", other.hear(62, 0), 1);
        one.align();
        s.due("the other one is not aligned", other.steps(), STATE);
        one.end();
        s.due("the other one's session", Scores.told(other), "4 1 1 1 0 1 1 2 8");
        s.due("the one's", Scores.told(one), "3 0 0 -1 1 0 -1 -1 8");
        other.clear();
        s.due("the one is not cleared", one.told(0), 3);
        s.due("a third one is new", Scores.told(new FollowScore()), "0 0 0 -1 0 0 -1 -1 8");
        s.due("with the COSTS at first", new FollowScore().cost(0, 1), 3);
    }

    // ---- 1 the score

    private static void notes() {
        Sentence numbers = of("==== 1 THE SCORE has NOTES 0, 1, ..");
        Sentence s = of("(60 at most), each a PITCH 0 .. 127 and a START 0 .. 1000000,"
                + " greater than that of the one before;");
        FollowScore x = new FollowScore();
        for (int i = 0; i < 60; i++) numbers.due("note " + i, x.note(2 * i, i), i);
        s.due("the 61st", x.note(0, 60), FULL);
        FollowScore y = new FollowScore();
        s.due("PITCH -1", y.note(-1, 0), RANGE);
        s.due("PITCH 128", y.note(128, 0), RANGE);
        s.due("START -1", y.note(0, -1), RANGE);
        s.due("START 1000001", y.note(0, 1000001), RANGE);
        s.due("PITCH 0, START 0", y.note(0, 0), 0);
        s.due("START 0 again", y.note(127, 0), RANGE);
        s.due("PITCH 127, START 1000000", y.note(127, 1000000), 1);
        s.due("START 1000000 again", y.note(0, 1000000), RANGE);
    }

    private static void ways() {
        Sentence s = of("WAYS (12 at most, in the order in which they were told): behind note a note b may come,"
                + " b being any but a + 1.");
        FollowScore x = Scores.scale(8);
        int number = 0;
        for (int to = 0; to < 8; to++) {
            s.due("way(4, " + to + ")", x.way(4, to), to == 5 ? RANGE : number);
            if (to != 5) number++;
        }
        for (int to = 0; to < 5; to++) s.due("way(6, " + to + ")", x.way(6, to), 7 + to);
        s.due("the 13th", x.way(0, 0), FULL);
        FollowScore y = Scores.of(60, 60, 60, 62);
        y.way(3, 2);
        y.way(3, 0);
        y.way(3, 1);
        Scores.hear(y, 60, 60, 60, 62, 60);
        y.align();
        s.due("of three WAYS the one that was told first", y.matched(4), 2);
    }

    private static void loop() {
        Sentence s = of("A LOOP may be there, from one note to another one that is not before it:"
                + " then notes out of it, and WAYS not both ends of which are in it, are not there.");
        FollowScore x = Scores.scale(5);
        x.way(3, 1);
        x.way(3, 0);
        x.way(4, 2);
        s.due("before it", x.loop(3, 2), RANGE);
        s.due("behind it", x.loop(2, 3), 0);
        s.due("another one", x.loop(1, 3), 1);
        Scores.costs(x, 1000, 3, 1000, 1, 0);
        Scores.hear(x, 60, 67, 62);
        s.due("notes out of it cannot be leapt to", x.align(), 6);
        x.cut(0);
        Scores.costs(x, 1000, 3, 1000, 0, 1000);
        Scores.hear(x, 62, 64, 65, 60);
        s.due("nor come to by a WAY", x.align(), 3);
        x.cut(3);
        s.due("the WAY in it is there", x.hear(62, 100), 1);
        s.due("so it is for nothing", x.valueOf(1), 0);
    }

    private static void places() {
        Sentence s = of("PLACES are the notes that are there, and -1, ahead of all.");
        FollowScore x = Scores.scale(4);
        x.hear(1, 0);
        s.due("all notes", Scores.values(x, 4), "2 3 5 7 9");
        s.due("below -1", x.valueOf(-2), RANGE);
        s.due("behind the last", x.valueOf(4), RANGE);
        x.cut(0);
        x.loop(2, 3);
        x.hear(1, 0);
        s.due("those of the LOOP", Scores.values(x, 4), "2 -1 -1 3 5");
    }

    private static void nexts() {
        Sentence behind = of("NEXT of a place are, in this order: the note behind it, if it is there"
                + " (of -1 note 0; with a LOOP its first note), at the PRICE 0;");
        Sentence round = of("with a LOOP, of its last note, its first one, at the PRICE 0;");
        Sentence way = of("by each WAY that is there from it, at the PRICE WAY. (A note may be NEXT twice.)");
        behind.due("note 0, then 1", best(dear(60, 62), 60, 62), "0: 0 0 0 0 | 0 1 1 0");
        behind.due("none behind the last", best(dear(60), 60, 1), "900: 0 0 0 0 | 1 0 1 900");
        FollowScore x = dear(60, 62, 64);
        x.loop(1, 2);
        behind.due("the LOOP's first note", best(x, 62, 64), "0: 0 1 0 0 | 0 2 1 0");
        FollowScore y = dear(60, 62, 64);
        y.loop(1, 2);
        round.due("round it", best(y, 62, 64, 62, 64), "0: 0 1 0 0 | 0 2 1 0 | 0 1 2 0 | 0 2 3 0");
        FollowScore z = dear(60, 62, 60, 60);
        z.way(1, 3);
        z.way(1, 0);
        z.cost(3, 0);
        way.due("the note behind comes first", best(z, 60, 62, 60), "0: 0 0 0 0 | 0 1 1 0 | 0 2 2 0");
        FollowScore w = dear(60, 62, 64, 60);
        w.way(1, 3);
        w.way(1, 0);
        w.cost(3, 8);
        way.due("then the first WAY", best(w, 60, 62, 60), "8: 0 0 0 0 | 0 1 1 0 | 0 3 2 8");
        FollowScore twice = dear(60, 62, 64);
        twice.way(2, 0);
        twice.loop(0, 2);
        way.due("round the LOOP for nothing", best(twice, 60, 62, 64, 60), "0: 0 0 0 0 | 0 1 1 0 | 0 2 2 0 | 0 0 3 0");
    }

    /** Notes with these pitches, all STEPS but a PLAY with its PITCH being dear. */
    private static FollowScore dear(int... pitches) {
        FollowScore x = Scores.of(pitches);
        Scores.costs(x, 1000, 900, 1000, 1000, 1000);
        return x;
    }

    /** SUM and STEPS of THE BEST. */
    private static String best(FollowScore x, int... pitches) {
        Scores.hear(x, pitches);
        return x.align() + ": " + Scores.course(x);
    }

    private static void costs() {
        Sentence s = of("COSTS are 0 WRONG, 1 EXTRA, 2 SKIP, 3 WAY, 4 LEAP, 0 .. 1000 each"
                + " (EXTRA and SKIP 1 at least); at first 3 2 2 1 6.");
        int[] atFirst = {3, 2, 2, 1, 6};
        int[] least = {0, 1, 1, 0, 0};
        for (int which = 0; which <= 4; which++) {
            FollowScore x = new FollowScore();
            s.due("too little for " + which, x.cost(which, least[which] - 1), RANGE);
            s.due("too much for " + which, x.cost(which, 1001), RANGE);
            s.due(which + " at first", x.cost(which, least[which]), atFirst[which]);
            s.due("the least of " + which, x.cost(which, 1000), least[which]);
            s.due("the most of " + which, x.cost(which, 1), 1000);
        }
        s.due("no such COST", new FollowScore().cost(5, 1), RANGE);
        s.due("WRONG", best(costing(11, 900, 900, 900, 900), 1), "11: 0 0 0 11");
        s.due("EXTRA", best(costing(900, 11, 900, 900, 900), 1), "11: 1 -1 0 11");
        s.due("SKIP", best(costing(900, 900, 11, 900, 900), 62), "11: 2 0 -1 11 | 0 1 0 0");
        s.due("WAY", best(costing(900, 900, 900, 11, 900), 60, 62, 60), "11: 0 0 0 0 | 0 1 1 0 | 0 0 2 11");
        s.due("LEAP", best(costing(900, 900, 900, 900, 11), 62), "11: 3 1 0 11");
    }

    /** Two notes, a WAY back and these COSTS. */
    private static FollowScore costing(int... costs) {
        FollowScore x = Scores.scale(2);
        x.way(1, 0);
        Scores.costs(x, costs);
        return x;
    }

    // ---- 2 a session

    private static void events() {
        Sentence s = of("==== 2 A SESSION hears EVENTS 0, 1, .. (120 at most), each a PITCH and a TIME 0 .. 10000000,"
                + " not less than that of the one before.");
        FollowScore x = Scores.of(0, 127);
        s.due("PITCH -1", x.hear(-1, 0), RANGE);
        s.due("PITCH 128", x.hear(128, 0), RANGE);
        s.due("TIME -1", x.hear(0, -1), RANGE);
        s.due("TIME 10000001", x.hear(0, 10000001), RANGE);
        s.due("PITCH 0, TIME 0", x.hear(0, 0), 0);
        s.due("PITCH 127, TIME 10000000", x.hear(127, 10000000), 1);
        s.due("one less", x.hear(0, 9999999), RANGE);
        for (int i = 2; i < 120; i++) s.due("EVENT " + i, x.hear(1, 10000000), 1);
        s.due("the 121st", x.hear(1, 10000000), FULL);
        s.due("so many", x.told(2), 120);
    }

    private static void courses() {
        Sentence s = of("A COURSE goes from -1 on by STEPS, and takes all EVENTS in order:");
        FollowScore x = Scores.of(60, 62, 64);
        s.due("from -1 on", best(x, 1, 60, 62, 1, 64),
                "4: 1 -1 0 2 | 0 0 1 0 | 0 1 2 0 | 1 1 3 2 | 0 2 4 0");
        Sentence play = of("0 PLAY: to a NEXT, which the next EVENT is: the PRICE, and WRONG if the PITCHES differ.");
        play.due("right and wrong", best(costing(5, 900, 900, 7, 900), 60, 1, 60, 62, 1),
                "24: 0 0 0 0 | 0 1 1 5 | 0 0 2 7 | 0 1 3 0 | 0 0 4 12");
        Sentence extra = of("1 EXTRA: the next EVENT is none, the place stays: EXTRA.");
        extra.due("where it stays", best(costing(900, 5, 900, 7, 900), 1, 60, 1), "10: 1 -1 0 5 | 0 0 1 0 | 1 0 2 5");
        Sentence pass = of("2 PASS: to a NEXT, without an EVENT: the PRICE and SKIP.");
        pass.due("on and back", best(costing(900, 900, 5, 7, 900), 62, 62),
                "17: 2 0 -1 5 | 0 1 0 0 | 2 0 -1 12 | 0 1 1 0");
        Sentence leap = of("3 LEAP: to any note that is there, which the next EVENT is: LEAP,"
                + " and WRONG if the PITCHES differ.");
        leap.due("right", best(costing(900, 900, 900, 7, 5), 60, 60), "5: 0 0 0 0 | 3 0 1 5");
        leap.due("wrong", best(costing(4, 900, 900, 900, 5), 60, 62, 1), "9: 0 0 0 0 | 0 1 1 0 | 3 0 2 9");
    }

    private static void theBest() {
        Sentence sum = of("Its SUM is that of all STEPS.");
        FollowScore x = Scores.scale(8);
        x.cost(1, 5);
        Scores.hear(x, 60, 64, 1, 69);
        int told = x.align();
        int all = 0;
        for (int k = 0; k < x.steps(); k++) all += x.step(k, 3);
        sum.due("of all costs", told, all);
        sum.due("note 1 is passed, 3 is wrong, 4 is passed", told, 2 + 3 + 2);
        Sentence s = of("THE BEST is the COURSE with the least SUM; of several that which has, at the first STEP at which"
                + " they differ, the lesser kind; of one kind that to the NEXT which is told first here;"
                + " of LEAPS that to the lesser note.");
        s.due("the least SUM", best(costing(9, 8, 7, 9, 9), 62), "7: 2 0 -1 7 | 0 1 0 0");
        s.due("PLAY", best(costing(7, 7, 7, 7, 7), 62), "7: 0 0 0 7");
        s.due("EXTRA", best(costing(8, 7, 7, 7, 7), 62), "7: 1 -1 0 7");
        s.due("PASS", best(costing(8, 8, 7, 7, 7), 62), "7: 2 0 -1 7 | 0 1 0 0");
        s.due("LEAP", best(costing(8, 8, 8, 7, 7), 62), "7: 3 1 0 7");
        FollowScore nexts = Scores.of(60, 62, 62, 62);
        nexts.way(0, 3);
        nexts.way(0, 2);
        nexts.cost(3, 0);
        s.due("the note behind", best(nexts, 60, 62), "0: 0 0 0 0 | 0 1 1 0");
        FollowScore leaps = Scores.of(60, 62, 62, 62);
        Scores.costs(leaps, 900, 900, 900, 900, 1);
        s.due("the lesser note", best(leaps, 62), "1: 3 1 0 1");
    }

    // ---- 3 following

    private static void values() {
        Sentence s = of("==== 3 FOLLOWING. For each place a VALUE is kept: at first 0 for -1, none for the others.");
        FollowScore x = Scores.scale(3);
        s.due("at first", Scores.values(x, 3), "0 -1 -1 -1");
        Sentence event = of("With an EVENT: a place's VALUE becomes the least SUM by which it is come to from a place"
                + " with its VALUE, by any number of PASSES, then one STEP that takes the EVENT"
                + " (none, if there is no VALUE to come from).");
        x.hear(62, 0);
        event.due("EXTRA; a wrong PLAY; a PASS and a PLAY; two PASSES and a wrong PLAY", Scores.values(x, 3), "2 3 2 7");
        x.hear(64, 0);
        event.due("from each of them", Scores.values(x, 3), "4 5 4 2");
        x.cut(0);
        x.span(0);
        x.hear(60, 0);
        event.due("of SPAN 0 note 0 is left", Scores.values(x, 3), "-1 0 -1 -1");
        x.hear(62, 0);
        event.due("and is come from", Scores.values(x, 3), "-1 -1 0 -1");
    }

    private static void thePlace() {
        Sentence s = of("THE PLACE (-1 at first) becomes the one with the least VALUE; of several the one whose number"
                + " is nearest to THE PLACE before and 1, then the lesser.");
        FollowScore x = Scores.of(60, 62, 60, 64, 60);
        s.due("at first", x.told(3), -1);
        x.cost(4, 0);
        s.due("of 0, 2 and 4 note 0, which is -1 and 1", x.hear(60, 0), 0);
        s.due("of 0, 2 and 4 note 0, the lesser of those beside 1", x.hear(60, 0), 0);
        s.due("the least VALUE", x.hear(62, 0), 1);
        s.due("of 0, 2 and 4 note 2, which is 1 and 1", x.hear(60, 0), 2);
        Sentence far = of("Then places whose numbers are more than SPAN from THE PLACE have no VALUE.");
        FollowScore y = Scores.scale(5);
        y.cost(4, 0);
        y.span(2);
        y.hear(64, 0);
        far.due("2 from note 2", Scores.values(y, 5), "-1 3 3 0 3 3");
        y.hear(60, 0);
        far.due("2 from note 0", Scores.values(y, 5), "-1 0 3 2 -1 -1");
    }

    private static void anchors() {
        Sentence s = of("ANCHORS: an EVENT whose THE PLACE is a note with its PITCH is one; if that note is not behind"
                + " the note of the ANCHOR before it, the ANCHORS before it are none any more.");
        Sentence tempo = of("TEMPO is, from the first to the last of the latest four ANCHORS, how much TIME went by,"
                + " over by how much START grew (lowest terms; 0 over 1 if no TIME went by);"
                + " with fewer than two: 1 over 1.");
        FollowScore x = Scores.scale(6);
        tempo.due("none", Scores.tempo(x), "1/1");
        x.hear(1, 0);
        s.due("-1", x.told(5), 0);
        x.hear(60, 4);
        s.due("note 0", x.told(5), 1);
        tempo.due("one", Scores.tempo(x), "1/1");
        x.hear(62, 4);
        tempo.due("no TIME", Scores.tempo(x), "0/1");
        x.hear(64, 20);
        x.hear(65, 30);
        tempo.due("four: 26 over 30", Scores.tempo(x), "13/15");
        x.hear(1, 40);
        s.due("another PITCH", x.told(5), 4);
        x.hear(67, 60);
        tempo.due("the latest four: 56 over 30", Scores.tempo(x), "28/15");
        s.due("all of them are there", x.told(5), 5);
        x.hear(67, 70);
        s.due("the same note", x.told(3) + " " + x.told(5), "4 1");
        tempo.due("one again", Scores.tempo(x), "1/1");
    }

    // ---- 4 when a session ends

    private static void boxes() {
        Sentence first = of("==== 4 WHEN A SESSION ENDS: each note has a BOX 0 .. 5 (0 at first), and is DUE from a session"
                + " on (0 at first, the first session being 0).");
        FollowScore x = Scores.scale(4);
        first.due("BOX and DUE", Scores.box(x, 3), "0 0");
        first.due("the session", x.told(4), 0);
        Sentence s = of("By THE BEST: a note that was played (PLAY or LEAP) at least once, each time with its PITCH, and"
                + " was never passed: its BOX is one more (5 at most), and it is DUE from the session on that is"
                + " 1, 2, 4, 8, 16, 32 (by its BOX then, from 0 on) behind the one that ends; another one that was"
                + " played or passed: BOX 0, DUE from the next session on; others stay.");
        String[] boxes = {"1 2", "2 5", "3 10", "4 19", "5 36", "5 37"};
        for (int session = 0; session < boxes.length; session++) {
            session(x, 60);
            s.due("session " + session, Scores.box(x, 0), boxes[session]);
            s.due("others", Scores.box(x, 1) + " " + Scores.box(x, 3), "0 0 0 0");
        }
        x.cost(1, 1000);
        session(x, 60, 64);
        s.due("note 0", Scores.box(x, 0), "5 38");
        s.due("note 1, which was passed", Scores.box(x, 1), "0 7");
        s.due("note 2", Scores.box(x, 2), "1 8");
        session(x, 1);
        s.due("a wrong note 0", Scores.box(x, 0), "0 8");
    }

    private static void session(FollowScore x, int... pitches) {
        Scores.hear(x, pitches);
        x.align();
        x.end();
    }

    // ---- refusals

    private static void refusals() {
        Sentence s = of("Refusals are below -1, the first that fits: RANGE -2 a number is not as told, or there is no such"
                + " thing; STATE -3; FULL -4. What is refused changes nothing.");
        s.refused("RANGE, STATE and FULL", TermsSentencesTest::fullWithEvents, x -> x.note(128, 60), RANGE);
        s.refused("STATE and FULL", TermsSentencesTest::fullWithEvents, x -> x.note(127, 60), STATE);
        s.refused("RANGE and FULL", TermsSentencesTest::fullWithEvents, x -> x.hear(127, 0), RANGE);
        s.refused("FULL", TermsSentencesTest::fullWithEvents, x -> x.hear(127, 1), FULL);
        s.refused("RANGE and STATE", FollowScore::new, x -> x.hear(128, 0), RANGE);
        s.refused("STATE", FollowScore::new, x -> x.hear(127, 0), STATE);
    }

    private static FollowScore fullWithEvents() {
        FollowScore x = Scores.sixty();
        Scores.hearOften(x, 120, 0, 1);
        return x;
    }

    private static void calls() {
        Sentence score = of("Ahead of the calls `note`, `way`, `loop`, `cost`, `span` the interface says:"
                + " ---- the score (in all of these STATE: there are EVENTS).");
        score.refused("note", TermsSentencesTest::heard, x -> x.note(60, 100), STATE);
        score.refused("way", TermsSentencesTest::heard, x -> x.way(2, 0), STATE);
        score.refused("loop", TermsSentencesTest::heard, x -> x.loop(0, 1), STATE);
        score.refused("cost", TermsSentencesTest::heard, x -> x.cost(0, 1), STATE);
        score.refused("span", TermsSentencesTest::heard, x -> x.span(1), STATE);
        Sentence session = of("Ahead of the calls `hear`, `cut`, `valueOf`, `tempo`, `ahead` the interface says:"
                + " ---- a session.");
        FollowScore x = heard();
        session.due("EVENTS are no matter", x.hear(64, 20) + " " + x.ahead(0) + " " + x.cut(2), "2 0 1");
        Sentence best = of("Ahead of the calls `align`, `step`, `steps`, `matched`, `grade`, `mean`, `end`, `due`, `of`,"
                + " `told` the interface says: ---- the best of all.");
        best.due("nor here", x.align() + " " + x.steps() + " " + x.matched(1) + " " + x.end(), "0 2 1 1");
    }

    private static FollowScore heard() {
        FollowScore x = Scores.scale(3);
        x.hear(60, 0);
        x.hear(62, 10);
        return x;
    }
}
