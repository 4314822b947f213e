/** THE BEST and the VALUES of many small scores against all COURSES up to the least SUM, one by one. */
public final class CoursesTest {
    private long seed = 916;

    public static void main(String[] args) {
        CoursesTest test = new CoursesTest();
        for (int run = 0; run < 20000 && !Check.hasFailed(); run++) test.run(run);
        Check.finish();
    }

    /** A number from 0 on, below the bound; the same ones in each run of the test. */
    private int below(int bound) {
        seed = seed * 6364136223846793005L + 1442695040888963407L;
        return (int) ((seed >>> 33) % bound);
    }

    private void run(int number) {
        int size = 1 + below(5);
        int[] pitches = new int[size];
        for (int i = 0; i < size; i++) pitches[i] = below(3);
        int[] costs = number % 4 == 0 ? new int[] {3, 2, 2, 1, 6}
                : new int[] {below(4), 1 + below(3), 1 + below(3), below(3), below(5)};
        int span = below(4) == 0 ? 8 : below(4);
        FollowScore x = Scores.of(pitches);
        Scores.costs(x, costs);
        x.span(span);
        Courses all = new Courses(pitches, costs);
        addWaysAndLoop(x, all, size);
        int[] events = new int[1 + below(5)];
        for (int i = 0; i < events.length; i++) events[i] = below(4);
        compare("run " + number, x, all, span, events);
    }

    private void addWaysAndLoop(FollowScore x, Courses all, int size) {
        for (int i = below(4); i > 0; i--) {
            int from = below(size);
            int to = below(size);
            if (x.way(from, to) >= 0) all.way(from, to);
        }
        if (below(3) != 0) return;
        int first = below(size);
        int last = first + below(size - first);
        x.loop(first, last);
        all.loop(first, last);
    }

    private static void compare(String run, FollowScore x, Courses all, int span, int[] events) {
        int notes = x.told(0);
        int event = 0;
        for (String want : all.following(span, events)) {
            int place = x.hear(events[event], 10 * event);
            Check.due(run + ", EVENT " + event + ": THE PLACE and VALUES", place + ": " + Scores.values(x, notes), want);
            event++;
        }
        Check.due(run + ": THE BEST", x.align() + ": " + Scores.course(x), all.best(events));
    }
}
