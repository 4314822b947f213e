/** Long runs of calls, wrong ones among them, against the model; 512 calls at most an object. */
public final class ModelTest {
    private static final int CALLS = 512;
    private static final int[] EDGES = {
        Integer.MIN_VALUE, -1000, -3, -2, -1, 0, 1, 2, 3, 4, 5, 6, 8, 9, 59, 60, 61, 100, 101, 119, 120, 121,
        127, 128, 1000, 1001, 1000000, 1000001, 10000000, 10000001, Integer.MAX_VALUE,
    };

    private long seed;
    private FollowScore x;
    private Model model;
    private int calls;
    private int run;
    private int pitches;
    private int lastStart;
    private int lastTime;

    private ModelTest(long seed) {
        this.seed = seed;
    }

    public static void main(String[] args) {
        ModelTest test = new ModelTest(20261116);
        for (int run = 0; run < 1500 && !Check.hasFailed(); run++) test.smallRun(run);
        for (int run = 0; run < 300 && !Check.hasFailed(); run++) test.wildRun(run);
        for (int run = 0; run < 12 && !Check.hasFailed(); run++) test.largeRun(run);
        Check.finish();
    }

    /** A number from 0 on, below the bound; the same ones in each run of the test. */
    private int below(int bound) {
        seed = seed * 6364136223846793005L + 1442695040888963407L;
        return (int) ((seed >>> 33) % bound);
    }

    private void begin(int number) {
        x = new FollowScore();
        model = new Model();
        calls = 0;
        run = number;
        lastStart = -1;
        lastTime = 0;
    }

    private void same(String call, long got, long want) {
        calls++;
        Check.due("run " + run + ", call " + calls + ": " + call, got, want);
    }

    private void smallRun(int number) {
        begin(number);
        pitches = 1 + below(4);
        int size = 1 + below(7);
        makeScore(size, 4);
        for (int i = 0; i < 60 && calls < CALLS - 100; i++) {
            oneCall(size);
            if (below(6) == 0) look(size);
        }
        look(size);
    }

    private void largeRun(int number) {
        begin(number);
        pitches = 12 + below(30);
        makeScore(60, 12);
        for (int i = 0; i < 120; i++) hear();
        for (int p = -1; p < 60; p++) same("valueOf(" + p + ")", x.valueOf(p), model.valueOf(p));
        same("align()", x.align(), model.align());
        for (int k = 0; k < 45; k++) lookAtStep(below(Math.max(1, x.steps() + 1)));
        same("steps()", x.steps(), model.steps());
    }

    /** Any call with any numbers: nothing but what the document tells may come of it. */
    private void wildRun(int number) {
        begin(number);
        pitches = 3;
        if (below(3) > 0) makeScore(1 + below(5), 3);
        while (calls < CALLS - 10) {
            int a = EDGES[below(EDGES.length)];
            int b = EDGES[below(EDGES.length)];
            switch (below(24)) {
                case 0: if (below(20) == 0) clear(); break;
                case 1: note(a, b); break;
                case 2: way(a, b); break;
                case 3: loop(a, b); break;
                case 4: cost(a, b); break;
                case 5: same("span " + a, x.span(a), model.span(a)); break;
                case 6: case 7: same("hear " + a + " " + b, x.hear(a, b), model.hear(a, b)); break;
                case 8: same("cut " + a, x.cut(a), model.cut(a)); break;
                case 9: same("valueOf " + a, x.valueOf(a), model.valueOf(a)); break;
                case 10: same("tempo " + a, x.tempo(a), model.tempo(a)); break;
                case 11: same("ahead " + a, x.ahead(a), model.ahead(a)); break;
                case 12: case 13: same("align", x.align(), model.align()); break;
                case 14: same("step " + a + " " + b, x.step(a, b), model.step(a, b)); break;
                case 15: same("steps", x.steps(), model.steps()); break;
                case 16: same("matched " + a, x.matched(a), model.matched(a)); break;
                case 17: same("grade " + a + " " + b, x.grade(a, b), model.grade(a, b)); break;
                case 18: mean(a); break;
                case 19: if (below(3) == 0) same("end", x.end(), model.end()); break;
                case 20: same("due " + a, x.due(a), model.due(a)); break;
                case 21: same("of " + a + " " + b, x.of(a, b), model.of(a, b)); break;
                default: same("told " + a, x.told(a), model.told(a)); break;
            }
        }
    }

    private void makeScore(int size, int ways) {
        for (int i = 0; i < size; i++) note(below(pitches), lastStart + 1 + below(20));
        for (int i = below(ways + 1); i > 0; i--) way(below(size), below(size));
        if (below(2) == 0) {
            for (int which = 0; which < 5; which++) cost(which, below(4));
        }
        if (below(3) == 0) {
            int from = below(size);
            loop(from, from + below(size - from));
        }
        if (below(2) == 0) {
            int span = below(4);
            same("span(" + span + ")", x.span(span), model.span(span));
        }
    }

    private void oneCall(int size) {
        switch (below(16)) {
            case 0:
                int n = below(model.told(2) + 2);
                lastTime = 0;
                same("cut(" + n + ")", x.cut(n), model.cut(n));
                break;
            case 1: case 2: same("align()", x.align(), model.align()); break;
            case 3:
                same("end()", x.end(), model.end());
                lastTime = model.told(2) == 0 ? 0 : lastTime;
                break;
            case 4: way(below(size + 1), below(size + 1)); break;
            case 5: loop(below(size + 1) - 1, below(size + 1)); break;
            case 6: cost(below(5), below(5)); break;
            case 7: note(below(pitches), lastStart + below(3)); break;
            case 8: if (below(30) == 0) clear(); break;
            default: hear(); break;
        }
    }

    private void hear() {
        int pitch = below(pitches + 1);
        int time = lastTime + below(12);
        int got = x.hear(pitch, time);
        same("hear(" + pitch + ", " + time + ")", got, model.hear(pitch, time));
        if (got >= -1) lastTime = time;
    }

    private void clear() {
        x.clear();
        model.clear();
        lastStart = -1;
        lastTime = 0;
    }

    private void note(int pitch, int start) {
        int got = x.note(pitch, start);
        same("note(" + pitch + ", " + start + ")", got, model.note(pitch, start));
        if (got >= 0) lastStart = start;
    }

    private void way(int from, int to) {
        same("way(" + from + ", " + to + ")", x.way(from, to), model.way(from, to));
    }

    private void loop(int from, int to) {
        same("loop(" + from + ", " + to + ")", x.loop(from, to), model.loop(from, to));
    }

    private void cost(int which, int v) {
        same("cost(" + which + ", " + v + ")", x.cost(which, v), model.cost(which, v));
    }

    private void mean(int side) {
        long got;
        long want;
        try {
            got = x.mean(side);
        } catch (ArithmeticException e) {
            got = -99;
        }
        try {
            want = model.mean(side);
        } catch (ArithmeticException e) {
            want = -99;
        }
        same("mean(" + side + ")", got, want);
    }

    private void look(int size) {
        if (calls > CALLS - 100) return;
        for (int what = -1; what <= 9; what++) same("told(" + what + ")", x.told(what), model.told(what));
        for (int p = -2; p <= size; p++) same("valueOf(" + p + ")", x.valueOf(p), model.valueOf(p));
        same("tempo(0)", x.tempo(0), model.tempo(0));
        same("tempo(1)", x.tempo(1), model.tempo(1));
        int note = below(size + 1);
        same("ahead(" + note + ")", x.ahead(note), model.ahead(note));
        for (int k = 0; k < 3; k++) same("due(" + k + ")", x.due(k), model.due(k));
        for (int what = 0; what <= 3; what++) {
            same("of(" + note + ", " + what + ")", x.of(note, what), model.of(note, what));
        }
        for (int what = 0; what <= 2; what++) {
            same("grade(" + note + ", " + what + ")", x.grade(note, what), model.grade(note, what));
        }
        mean(0);
        mean(1);
        same("steps()", x.steps(), model.steps());
        for (int i = 0; i < 4; i++) lookAtStep(below(Math.max(1, model.steps() + 1)));
        int event = below(model.told(2) + 1);
        same("matched(" + event + ")", x.matched(event), model.matched(event));
    }

    private void lookAtStep(int k) {
        for (int what = 0; what <= 3; what++) {
            same("step(" + k + ", " + what + ")", x.step(k, what), model.step(k, what));
        }
    }
}
