/** Promises 8 to 12: hear, cut, valueOf, tempo, ahead. */
public final class SessionTest {
    private static final int RANGE = -2, STATE = -3, FULL = -4;
    private static final int LEAST = Integer.MIN_VALUE, MOST = Integer.MAX_VALUE;

    public static void main(String[] args) {
        hearAndValues();
        hearTies();
        hearSpan();
        hearLeapsAndWays();
        hearInLoop();
        hearRefusals();
        cutGoesBack();
        cutRefusals();
        valueRefusals();
        tempoOfLatestFour();
        tempoWithoutTime();
        anchorsEnd();
        aheadBelowZero();
        aheadFarAway();
        aheadRefusals();
        Check.finish();
    }

    private static void hearAndValues() {
        FollowScore x = Scores.scale(3);
        Check.due("at first", Scores.values(x, 3), "0 -1 -1 -1");
        Check.due("told(3) at first", x.told(3), -1);
        Check.due("hear 60", x.hear(60, 0), 0);
        Check.due("values", Scores.values(x, 3), "2 0 5 7");
        Check.due("told(3)", x.told(3), 0);
        Check.due("hear 64: a tie at the same distance", x.hear(64, 10), 0);
        Check.due("values", Scores.values(x, 3), "4 2 3 2");
        Check.due("told(2)", x.told(2), 2);
        FollowScore y = Scores.scale(3);
        Check.due("a wrong note ahead of all", y.hear(1, 0), -1);
        Check.due("values", Scores.values(y, 3), "2 3 5 7");
        Check.due("told(5)", y.told(5), 0);
    }

    private static void hearTies() {
        FollowScore x = Scores.of(60, 62, 60);
        x.cost(3, 0);
        x.way(1, 0);
        Scores.hear(x, 60, 62);
        Check.due("of two the one that is expected", x.hear(60, 100), 2);
        Check.due("values", Scores.values(x, 3), "6 0 2 0");
        FollowScore y = Scores.of(60, 60, 60, 60);
        Scores.costs(y, 3, 2, 2, 1, 0);
        Check.due("of all the first", y.hear(60, 0), 0);
        Check.due("of all the next", y.hear(60, 0), 1);
        Check.due("of all the next again", y.hear(60, 0), 2);
        Check.due("and again", y.hear(60, 0), 3);
        Check.due("then the last one stays", y.hear(60, 0), 3);
    }

    private static void hearSpan() {
        FollowScore x = Scores.scale(5);
        x.span(2);
        x.hear(60, 0);
        Check.due("span 2", Scores.values(x, 5), "2 0 5 7 -1 -1");
        FollowScore y = Scores.scale(3);
        y.span(0);
        y.hear(60, 0);
        Check.due("span 0", Scores.values(y, 3), "-1 0 -1 -1");
        Check.due("hear 64", y.hear(64, 0), 0);
        Check.due("span 0 again", Scores.values(y, 3), "-1 2 -1 -1");
    }

    private static void hearLeapsAndWays() {
        FollowScore x = Scores.scale(8);
        x.cost(4, 1);
        x.hear(60, 0);
        Check.due("a LEAP", x.hear(72, 0), 7);
        Check.due("values", Scores.values(x, 8), "4 2 3 4 4 4 4 4 1");
        FollowScore y = Scores.scale(8);
        y.cost(4, 1);
        y.span(7);
        Scores.hear(y, 60, 72);
        Check.due("-1 is too far", y.valueOf(-1), -1);
        Check.due("0 is not", y.valueOf(0), 2);
        FollowScore z = Scores.scale(4);
        z.way(1, 3);
        z.way(3, 0);
        Scores.hear(z, 60, 62);
        Check.due("over a PASS by two WAYS", z.hear(60, 100), 1);
        Check.due("values", Scores.values(z, 4), "6 4 2 3 4");
    }

    private static void hearInLoop() {
        FollowScore x = Scores.scale(4);
        x.loop(1, 2);
        Check.due("hear 62", x.hear(62, 0), 1);
        Check.due("values", Scores.values(x, 4), "2 -1 0 5 -1");
        Check.due("hear 64", x.hear(64, 0), 2);
        Check.due("hear 62 again", x.hear(62, 0), 1);
        Check.due("hear 60, which is not there", x.hear(60, 0), 1);
        Check.due("values", Scores.values(x, 4), "8 -1 2 3 -1");
    }

    private static void hearRefusals() {
        FollowScore x = new FollowScore();
        Check.due("no notes", x.hear(60, 0), STATE);
        Check.due("no notes, wrong pitch", x.hear(128, 0), RANGE);
        x.note(60, 0);
        Check.due("hear(-1, 0)", x.hear(-1, 0), RANGE);
        Check.due("hear(128, 0)", x.hear(128, 0), RANGE);
        Check.due("hear(60, -1)", x.hear(60, -1), RANGE);
        Check.due("hear(60, 10000001)", x.hear(60, 10000001), RANGE);
        Check.due("hear least", x.hear(LEAST, LEAST), RANGE);
        Check.due("hear most", x.hear(MOST, MOST), RANGE);
        Check.due("told", Scores.told(x), "1 0 0 -1 0 0 -1 -1 8");
        Check.due("hear(60, 5)", x.hear(60, 5), 0);
        Check.due("hear(60, 4)", x.hear(60, 4), RANGE);
        Check.due("hear(60, 5) again", x.hear(60, 5), 0);
        Check.due("told", Scores.told(x), "1 0 2 0 0 1 -1 -1 8");
        for (int i = 2; i < 119; i++) x.hear(60, 5);
        Check.due("hear(60, 10000000)", x.hear(60, 10000000), 0);
        Check.due("told(2)", x.told(2), 120);
        int value = x.valueOf(0);
        x.align();
        Check.due("full", x.hear(60, 10000000), FULL);
        Check.due("full and too early", x.hear(60, 9999999), RANGE);
        Check.due("VALUE as it was", x.valueOf(0), value);
        Check.due("THE BEST is still known", x.steps(), 120);
    }

    private static void cutGoesBack() {
        int[] pitches = {60, 64, 64, 61, 65, 60, 60, 69, 60, 62};
        FollowScore x = Scores.scale(6);
        x.way(3, 0);
        x.span(3);
        String[] seen = new String[pitches.length + 1];
        seen[0] = sight(x);
        for (int i = 0; i < pitches.length; i++) {
            x.hear(pitches[i], 7 * i);
            seen[i + 1] = sight(x);
        }
        for (int n = pitches.length; n >= 0; n--) {
            Check.due("cut(" + n + ")", x.cut(n), x.told(3));
            Check.due("behind cut(" + n + ")", sight(x), seen[n]);
        }
        for (int i = 0; i < 4; i++) x.hear(pitches[i], 7 * i);
        Check.due("heard again", sight(x), seen[4]);
        Check.due("a time ahead of what was cut", x.cut(2), x.told(3));
        Check.isTrue("may be heard", x.hear(60, 8) >= -1);
    }

    private static String sight(FollowScore x) {
        String tempo = x.tempo(0) + "/" + x.tempo(1);
        return Scores.told(x) + " : " + Scores.values(x, 6) + " : " + tempo + " : " + x.ahead(5);
    }

    private static void cutRefusals() {
        FollowScore x = Scores.scale(3);
        Check.due("nothing to cut", x.cut(1), RANGE);
        Check.due("cut(0)", x.cut(0), -1);
        Scores.hear(x, 60, 62);
        x.align();
        Check.due("cut(-1)", x.cut(-1), RANGE);
        Check.due("cut(3)", x.cut(3), RANGE);
        Check.due("cut least", x.cut(LEAST), RANGE);
        Check.due("cut most", x.cut(MOST), RANGE);
        Check.due("told(2)", x.told(2), 2);
        Check.due("THE BEST is still known", x.steps(), 2);
        Check.due("cut(2)", x.cut(2), 1);
        Check.due("then it is not", x.steps(), STATE);
        Check.due("nothing else changes", x.told(2), 2);
        Check.due("cut(0)", x.cut(0), -1);
        Check.due("the score may change again", x.note(1, 500), 3);
    }

    private static void valueRefusals() {
        FollowScore x = Scores.scale(3);
        Check.due("valueOf(-2)", x.valueOf(-2), RANGE);
        Check.due("valueOf(3)", x.valueOf(3), RANGE);
        Check.due("valueOf least", x.valueOf(LEAST), RANGE);
        Check.due("valueOf most", x.valueOf(MOST), RANGE);
        Check.due("valueOf(2)", x.valueOf(2), -1);
        x.loop(1, 1);
        Check.due("out of the LOOP", x.valueOf(0), -1);
        Check.due("out of the LOOP, still no such note", x.valueOf(3), RANGE);
    }

    private static void tempoOfLatestFour() {
        FollowScore x = Scores.scale(6);
        x.hear(60, 0);
        Check.due("one ANCHOR", x.tempo(0) + "/" + x.tempo(1), "1/1");
        Check.due("ahead(2) by it", x.ahead(2), 20);
        x.hear(62, 100);
        Check.due("two", x.tempo(0) + "/" + x.tempo(1), "10/1");
        x.hear(64, 110);
        Check.due("three", x.tempo(0) + "/" + x.tempo(1), "11/2");
        x.hear(65, 120);
        Check.due("four", x.tempo(0) + "/" + x.tempo(1), "4/1");
        x.hear(67, 131);
        Check.due("the latest four of five", x.tempo(0) + "/" + x.tempo(1), "31/30");
        Check.due("told(5)", x.told(5), 5);
        Check.due("ahead(5)", x.ahead(5), 141);
        Check.due("ahead(4)", x.ahead(4), 131);
        Check.due("ahead(0), rounded down", x.ahead(0), 89);
        Check.due("tempo(2)", x.tempo(2), RANGE);
        Check.due("tempo(-1)", x.tempo(-1), RANGE);
        Check.due("tempo least", x.tempo(LEAST), RANGE);
    }

    private static void tempoWithoutTime() {
        FollowScore x = Scores.scale(4);
        Scores.hear(x, 60, 62);
        Check.due("told(5)", x.told(5), 2);
        Check.due("no TIME", x.tempo(0) + "/" + x.tempo(1), "0/1");
        Check.due("ahead(3)", x.ahead(3), 100);
        Check.due("ahead(0)", x.ahead(0), 100);
    }

    private static void anchorsEnd() {
        FollowScore x = Scores.scale(4);
        x.hear(60, 0);
        x.hear(62, 30);
        Check.due("a wrong EVENT", x.hear(1, 40), 1);
        Check.due("is no ANCHOR", x.told(5), 2);
        Check.due("TEMPO stays", x.tempo(0), 3);
        Check.due("the note again", x.hear(62, 50), 1);
        Check.due("is the only ANCHOR", x.told(5), 1);
        Check.due("TEMPO at first again", x.tempo(0) + "/" + x.tempo(1), "1/1");
        Check.due("ahead(2) by it", x.ahead(2), 60);
        FollowScore y = Scores.scale(4);
        y.cost(4, 0);
        y.hear(65, 1);
        y.hear(62, 2);
        Check.due("back: one ANCHOR", y.told(5), 1);
        y.hear(65, 7);
        Check.due("on: two", y.told(5), 2);
        Check.due("over a note left out", y.tempo(0) + "/" + y.tempo(1), "1/4");
        y.align();
        y.end();
        Check.due("none in the next session", y.told(5), 0);
    }

    private static void aheadBelowZero() {
        FollowScore x = Scores.scale(4);
        x.cost(4, 0);
        x.hear(65, 0);
        Check.due("ahead(0)", x.ahead(0), -30);
        FollowScore y = new FollowScore();
        y.note(60, 1);
        y.note(62, 4);
        y.note(64, 5);
        y.cost(4, 0);
        y.hear(62, 0);
        y.hear(64, 1);
        y.cut(1);
        y.hear(64, 0);
        Check.due("no TIME", y.ahead(0), 0);
        FollowScore z = new FollowScore();
        z.note(60, 0);
        z.note(62, 1);
        z.note(64, 4);
        z.cost(4, 0);
        z.hear(62, 0);
        z.hear(64, 2);
        Check.due("TEMPO", z.tempo(0) + "/" + z.tempo(1), "2/3");
        Check.due("2 - 8/3, rounded down", z.ahead(0), -1);
    }

    private static void aheadFarAway() {
        FollowScore x = new FollowScore();
        x.note(60, 0);
        x.note(62, 1);
        x.note(64, 1000000);
        x.hear(60, 0);
        x.hear(62, 10000000);
        Check.due("tempo(0)", x.tempo(0), 10000000);
        Check.due("ahead(2)", x.ahead(2), 10000000000000L);
        FollowScore y = new FollowScore();
        y.note(60, 0);
        y.note(62, 999999);
        y.note(64, 1000000);
        y.cost(4, 0);
        y.hear(62, 0);
        y.hear(64, 10000000);
        Check.due("ahead(0)", y.ahead(0), 10000000L - 10000000000000L);
    }

    private static void aheadRefusals() {
        FollowScore x = Scores.scale(3);
        Check.due("no ANCHOR", x.ahead(0), STATE);
        Check.due("ahead(-1)", x.ahead(-1), RANGE);
        Check.due("ahead(3)", x.ahead(3), RANGE);
        x.hear(1, 0);
        Check.due("an EVENT, no ANCHOR", x.ahead(0), STATE);
        x.cut(0);
        x.loop(1, 2);
        x.hear(62, 50);
        Check.due("ahead least", x.ahead(LEAST), RANGE);
        Check.due("ahead most", x.ahead(MOST), RANGE);
        Check.due("a note out of the LOOP", x.ahead(0), 40);
    }
}
