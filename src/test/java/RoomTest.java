import java.lang.management.ManagementFactory;

/** One room holds all that a run makes: even a run of nothing but new objects fits in, and calls make none. */
public final class RoomTest {
    private static final int CALLS = 512;
    private static final int MOST_OBJECTS = 600000;
    private static final int MOST_FIELDS = 7300000;
    /** Less than one small object for each of the calls that are counted. */
    private static final int LITTLE = 2000;
    private static int sum = 0;

    public static void main(String[] args) {
        newObject();
        sameRows();
        noObjects();
        Check.finish();
    }

    private static void newObject() {
        Room room = new Room(new FollowScore());
        Check.isTrue(room.objects() + " objects in a new one", room.objects() * CALLS < MOST_OBJECTS);
        Check.isTrue(room.fieldsAndElements() + " fields and elements", room.fieldsAndElements() * CALLS < MOST_FIELDS);
    }

    private static void sameRows() {
        FollowScore x = new FollowScore();
        Room before = new Room(x);
        use(x);
        use(x);
        Check.isTrue("the rows of a used object are those of the new one", new Room(x).isSameAs(before));
    }

    /** Some 240 calls, each of the face among them, with all notes, WAYS and EVENTS. */
    private static void use(FollowScore x) {
        x.clear();
        for (int i = 0; i < 60; i++) sum += x.note(i, i);
        for (int i = 0; i < 12; i++) sum += x.way(59, i);
        sum += x.cost(0, 4) + x.span(100) + x.loop(2, 50) + x.loop(-1, 0);
        for (int i = 0; i < 120; i++) sum += x.hear(i % 70, i);
        sum += x.cut(119) + x.valueOf(0) + x.tempo(0) + x.tempo(1) + (int) x.ahead(0);
        sum += x.align() + x.steps() + x.matched(0) + x.grade(0, 0) + x.mean(0) + x.mean(1);
        for (int what = 0; what <= 3; what++) sum += x.step(x.steps() - 1, what);
        for (int what = 0; what <= 8; what++) sum += x.told(what) + x.of(0, what);
        sum += x.end() + x.due(0) + x.note(128, 0) + x.hear(128, 0);
    }

    private static void noObjects() {
        if (!(ManagementFactory.getThreadMXBean() instanceof com.sun.management.ThreadMXBean bean)
                || !bean.isThreadAllocatedMemorySupported() || !bean.isThreadAllocatedMemoryEnabled()) {
            System.out.println("this machine does not tell what is made: not looked at");
            return;
        }
        // The machine makes things of its own now and then, so the round in which it made least counts.
        long least = Long.MAX_VALUE;
        for (int i = 0; i < 20; i++) least = Math.min(least, madeBy(bean, new FollowScore()));
        Check.isTrue(least + " bytes made by calls", least < LITTLE);
    }

    private static long madeBy(com.sun.management.ThreadMXBean bean, FollowScore x) {
        long thread = Thread.currentThread().getId();
        long before = bean.getThreadAllocatedBytes(thread);
        use(x);
        return bean.getThreadAllocatedBytes(thread) - before;
    }
}
