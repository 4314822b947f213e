/**
 * Follows a player through a score, finds the best of all ways in which what was heard may have
 * been meant, and keeps which notes are due again. The document's words in capitals (PLACE, NEXT,
 * VALUE, ANCHOR, THE BEST ..) mean here what they mean there.
 */
public final class FollowScore {
    public static final int NONE = -1, RANGE = -2, STATE = -3, FULL = -4;

    private static final int MAX_NOTES = 60;
    private static final int MAX_WAYS = 12;
    private static final int MAX_EVENTS = 120;
    private static final int MAX_PITCH = 127;
    private static final int MAX_START = 1000000;
    private static final int MAX_TIME = 10000000;
    private static final int MAX_COST = 1000;
    private static final int MAX_SPAN = 100;
    private static final int MAX_BOX = 5;
    private static final int FIRST_SPAN = 8;

    /** The notes and -1: rows over places hold place p at p + 1. */
    private static final int PLACES = MAX_NOTES + 1;
    /** Each place has one note behind it at most; one more NEXT for the LOOP, and the WAYS. */
    private static final int MAX_NEXTS = PLACES + 1 + MAX_WAYS;
    /** Stands for no VALUE: far above any SUM, and no sum with it leaves the ints. */
    private static final int NO_VALUE = 1000000000;

    private static final int WRONG = 0, EXTRA = 1, SKIP = 2, WAY = 3, LEAP = 4;
    private static final int[] FIRST_COSTS = {3, 2, 2, 1, 6};

    private static final int KIND_PLAY = 0, KIND_EXTRA = 1, KIND_PASS = 2, KIND_LEAP = 3;

    private final Score score;
    private final Heard heard;
    private final Nexts nexts;
    private final Following following;
    private final Anchors anchors;
    private final Best best;
    private final Boxes boxes;

    public FollowScore() {
        score = new Score();
        heard = new Heard();
        nexts = new Nexts(score);
        following = new Following(score, nexts, heard);
        anchors = new Anchors(score, heard);
        best = new Best(score, nexts, heard);
        boxes = new Boxes();
    }

    public void clear() {
        score.empty();
        boxes.session = 0;
        hearNothing();
    }

    // ---- the score

    public int note(int pitch, int start) {
        if (!isWithin(pitch, 0, MAX_PITCH) || !isWithin(start, 0, MAX_START)) return RANGE;
        if (start <= score.lastStart()) return RANGE;
        if (heard.count > 0 || score.hasLoop()) return STATE;
        if (score.notes >= MAX_NOTES) return FULL;
        int number = score.addNote(pitch, start);
        boxes.open(number);
        return number;
    }

    public int way(int from, int to) {
        if (!score.isNote(from) || !score.isNote(to)) return RANGE;
        if (to == from + 1 || score.hasWay(from, to)) return RANGE;
        if (heard.count > 0) return STATE;
        if (score.ways >= MAX_WAYS) return FULL;
        return score.addWay(from, to);
    }

    public int loop(int from, int to) {
        boolean none = from == NONE;
        if (!none && (!score.isNote(from) || !score.isNote(to) || to < from)) return RANGE;
        if (heard.count > 0) return STATE;
        int was = score.hasLoop() ? 1 : 0;
        score.loopFirst = from;
        score.loopLast = none ? NONE : to;
        return was;
    }

    public int cost(int which, int v) {
        if (!isWithin(which, WRONG, LEAP)) return RANGE;
        int least = which == EXTRA || which == SKIP ? 1 : 0;
        if (!isWithin(v, least, MAX_COST)) return RANGE;
        if (heard.count > 0) return STATE;
        int was = score.costs[which];
        score.costs[which] = v;
        return was;
    }

    public int span(int s) {
        if (!isWithin(s, 0, MAX_SPAN)) return RANGE;
        if (heard.count > 0) return STATE;
        int was = score.span;
        score.span = s;
        return was;
    }

    // ---- a session

    public int hear(int pitch, int time) {
        if (!isWithin(pitch, 0, MAX_PITCH) || !isWithin(time, 0, MAX_TIME)) return RANGE;
        if (time < heard.lastTime()) return RANGE;
        if (score.notes == 0) return STATE;
        if (heard.count >= MAX_EVENTS) return FULL;
        // The score stands still while there are EVENTS, so NEXT is laid out with the first alone.
        if (heard.count == 0) nexts.lay();
        followOn(heard.add(pitch, time));
        best.known = false;
        return following.place;
    }

    public int cut(int n) {
        if (!isWithin(n, 0, heard.count)) return RANGE;
        // To hear them again needs no rows for the VALUES behind each EVENT.
        hearNothing();
        heard.count = n;
        for (int event = 0; event < n; event++) followOn(event);
        return following.place;
    }

    public int valueOf(int place) {
        if (place != NONE && !score.isNote(place)) return RANGE;
        int value = following.valueAt(place);
        return value >= NO_VALUE ? NONE : value;
    }

    public int tempo(int side) {
        if (!isWithin(side, 0, 1)) return RANGE;
        return lowestTerms(anchors.timeGone(), anchors.startGrown(), side);
    }

    public long ahead(int note) {
        if (!score.isNote(note)) return RANGE;
        if (anchors.count == 0) return STATE;
        return anchors.expected(note);
    }

    // ---- the best of all

    public int align() {
        if (score.notes == 0) return STATE;
        if (!best.known) best.find();
        return best.sum;
    }

    public int step(int k, int what) {
        if (!isWithin(what, 0, 3) || k < 0) return RANGE;
        if (!best.known) return STATE;
        if (k >= best.count) return RANGE;
        return best.tell(k, what);
    }

    public int steps() {
        return best.known ? best.count : STATE;
    }

    public int matched(int event) {
        if (!isWithin(event, 0, heard.count - 1)) return RANGE;
        return best.known ? best.matches[event] : STATE;
    }

    public int grade(int note, int what) {
        if (!score.isNote(note) || !isWithin(what, 0, 2)) return RANGE;
        if (!best.known) return STATE;
        if (what == 0) return best.played[note];
        return what == 1 ? best.right[note] : best.passed[note];
    }

    public int mean(int side) throws ArithmeticException {
        if (!isWithin(side, 0, 1)) return RANGE;
        if (!best.known) return STATE;
        int played = sumOf(best.played, score.notes);
        if (played == 0) throw new ArithmeticException("no note was played");
        return lowestTerms(sumOf(best.right, score.notes), played, side);
    }

    public int end() {
        if (!best.known || heard.count == 0) return STATE;
        for (int note = 0; note < score.notes; note++) {
            if (best.isFaultless(note)) boxes.raise(note);
            else if (best.isTouched(note)) boxes.drop(note);
        }
        boxes.session++;
        hearNothing();
        return boxes.countDue(score.notes);
    }

    public int due(int k) {
        if (k < 0) return RANGE;
        return boxes.dueAt(k, score.notes);
    }

    public int of(int note, int what) {
        if (!score.isNote(note)) return RANGE;
        switch (what) {
            case 0: return score.pitches[note];
            case 1: return score.starts[note];
            case 2: return boxes.box[note];
            case 3: return boxes.dueFrom[note];
            default: return RANGE;
        }
    }

    public int told(int what) {
        switch (what) {
            case 0: return score.notes;
            case 1: return score.ways;
            case 2: return heard.count;
            case 3: return following.place;
            case 4: return boxes.session;
            case 5: return anchors.count;
            case 6: return score.loopFirst;
            case 7: return score.loopLast;
            case 8: return score.span;
            default: return RANGE;
        }
    }

    private void hearNothing() {
        heard.count = 0;
        following.begin();
        anchors.count = 0;
        best.known = false;
    }

    private void followOn(int event) {
        following.follow(event);
        anchors.look(event, following.place);
    }

    private static boolean isWithin(int v, int least, int most) {
        return v >= least && v <= most;
    }

    private static int sumOf(int[] row, int length) {
        int sum = 0;
        for (int i = 0; i < length && i < row.length; i++) sum += row[i];
        return sum;
    }

    /** The upper (side 0) or lower (side 1) number of the fraction upper over lower. */
    private static int lowestTerms(int upper, int lower, int side) {
        int divisor = commonDivisor(upper, lower);
        int number = side == 0 ? upper : lower;
        return divisor == 0 ? number : number / divisor;
    }

    private static int commonDivisor(int a, int b) {
        int x = a;
        int y = b;
        // Two rounds halve the numbers at least, so 64 rounds are enough for any two ints.
        for (int round = 0; round < 64 && y != 0; round++) {
            int left = x % y;
            x = y;
            y = left;
        }
        return x;
    }

    /** What the player reads: notes, WAYS and the LOOP, with the COSTS and the SPAN. */
    private static final class Score {
        final int[] pitches = new int[MAX_NOTES];
        final int[] starts = new int[MAX_NOTES];
        final int[] wayFrom = new int[MAX_WAYS];
        final int[] wayTo = new int[MAX_WAYS];
        final int[] costs = new int[FIRST_COSTS.length];
        int notes;
        int ways;
        int loopFirst;
        int loopLast;
        int span;

        Score() {
            empty();
        }

        void empty() {
            notes = 0;
            ways = 0;
            loopFirst = NONE;
            loopLast = NONE;
            span = FIRST_SPAN;
            for (int i = 0; i < FIRST_COSTS.length; i++) costs[i] = FIRST_COSTS[i];
        }

        int addNote(int pitch, int start) {
            pitches[notes] = pitch;
            starts[notes] = start;
            notes++;
            return notes - 1;
        }

        int addWay(int from, int to) {
            wayFrom[ways] = from;
            wayTo[ways] = to;
            ways++;
            return ways - 1;
        }

        boolean isNote(int number) {
            return number >= 0 && number < notes;
        }

        boolean hasWay(int from, int to) {
            for (int i = 0; i < ways; i++) {
                if (wayFrom[i] == from && wayTo[i] == to) return true;
            }
            return false;
        }

        boolean hasLoop() {
            return loopFirst != NONE;
        }

        int lastStart() {
            return notes == 0 ? NONE : starts[notes - 1];
        }

        /** The notes that are there are those from firstThere() to lastThere(). */
        int firstThere() {
            return hasLoop() ? loopFirst : 0;
        }

        int lastThere() {
            return hasLoop() ? loopLast : notes - 1;
        }

        boolean isThere(int note) {
            return note >= firstThere() && note <= lastThere();
        }

        int mistake(int note, int pitch) {
            return pitches[note] == pitch ? 0 : costs[WRONG];
        }
    }

    /** The EVENTS of the session. */
    private static final class Heard {
        final int[] pitches = new int[MAX_EVENTS];
        final int[] times = new int[MAX_EVENTS];
        int count;

        int add(int pitch, int time) {
            pitches[count] = pitch;
            times[count] = time;
            count++;
            return count - 1;
        }

        int lastTime() {
            return count == 0 ? 0 : times[count - 1];
        }
    }

    /** NEXT of all places in one row: place by place upwards, those of a place in their order. */
    private static final class Nexts {
        private final Score score;
        final int[] from = new int[MAX_NEXTS];
        final int[] note = new int[MAX_NEXTS];
        final int[] price = new int[MAX_NEXTS];
        final int[] begin = new int[PLACES + 1];
        int count;

        Nexts(Score score) {
            this.score = score;
        }

        void lay() {
            count = 0;
            for (int place = NONE; place < score.notes; place++) {
                begin[place + 1] = count;
                if (place == NONE || score.isThere(place)) layFrom(place);
            }
            begin[score.notes + 1] = count;
        }

        private void layFrom(int place) {
            int behind = place == NONE ? score.firstThere() : place + 1;
            if (score.isThere(behind)) add(place, behind, 0);
            if (score.hasLoop() && place == score.loopLast) add(place, score.loopFirst, 0);
            for (int i = 0; i < score.ways; i++) {
                if (score.wayFrom[i] == place && score.isThere(score.wayTo[i])) {
                    add(place, score.wayTo[i], score.costs[WAY]);
                }
            }
        }

        private void add(int place, int to, int cost) {
            if (count >= MAX_NEXTS) return;
            from[count] = place;
            note[count] = to;
            price[count] = cost;
            count++;
        }

        int beginOf(int place) {
            return begin[place + 1];
        }

        int endOf(int place) {
            return begin[place + 2];
        }
    }

    /** THE PLACE and the VALUES, as they are behind the latest EVENT. */
    private static final class Following {
        private final Score score;
        private final Nexts nexts;
        private final Heard heard;
        private final int[] values = new int[PLACES];
        private final int[] reach = new int[PLACES];
        int place;

        Following(Score score, Nexts nexts, Heard heard) {
            this.score = score;
            this.nexts = nexts;
            this.heard = heard;
            begin();
        }

        void begin() {
            for (int i = 0; i < PLACES; i++) values[i] = NO_VALUE;
            values[0] = 0;
            place = NONE;
        }

        int valueAt(int at) {
            return values[at + 1];
        }

        void follow(int event) {
            passOn();
            take(heard.pitches[event]);
            place = nearestOfLeast(place + 1);
            forgetFar();
        }

        /** Fills reach: the least SUM of each place by any number of PASSES from the VALUES. */
        private void passOn() {
            for (int i = 0; i <= score.notes; i++) reach[i] = values[i];
            boolean changed = true;
            for (int round = 0; round < PLACES && changed; round++) changed = passOnce();
        }

        private boolean passOnce() {
            boolean changed = false;
            for (int i = 0; i < nexts.count; i++) {
                int sum = reach[nexts.from[i] + 1] + nexts.price[i] + score.costs[SKIP];
                int to = nexts.note[i] + 1;
                if (sum < reach[to]) {
                    reach[to] = sum;
                    changed = true;
                }
            }
            return changed;
        }

        private void take(int pitch) {
            int least = NO_VALUE;
            for (int i = 0; i <= score.notes; i++) {
                least = Math.min(least, reach[i]);
                values[i] = Math.min(NO_VALUE, reach[i] + score.costs[EXTRA]);
            }
            for (int note = score.firstThere(); note <= score.lastThere(); note++) {
                lower(note, least + score.costs[LEAP] + score.mistake(note, pitch));
            }
            for (int i = 0; i < nexts.count; i++) {
                int note = nexts.note[i];
                int sum = reach[nexts.from[i] + 1] + nexts.price[i];
                lower(note, sum + score.mistake(note, pitch));
            }
        }

        private void lower(int note, int sum) {
            values[note + 1] = Math.min(values[note + 1], sum);
        }

        private int nearestOfLeast(int expected) {
            int found = NONE;
            for (int note = 0; note < score.notes; note++) {
                int more = valueAt(note) - valueAt(found);
                boolean nearer = Math.abs(note - expected) < Math.abs(found - expected);
                if (more < 0 || more == 0 && nearer) found = note;
            }
            return found;
        }

        private void forgetFar() {
            for (int at = NONE; at < score.notes; at++) {
                if (Math.abs(at - place) > score.span) values[at + 1] = NO_VALUE;
            }
        }
    }

    /** The ANCHORS, which are one rising row of notes, so never more than there are notes. */
    private static final class Anchors {
        private static final int LATEST = 4;
        private final Score score;
        private final Heard heard;
        private final int[] events = new int[MAX_NOTES];
        private final int[] notes = new int[MAX_NOTES];
        int count;

        Anchors(Score score, Heard heard) {
            this.score = score;
            this.heard = heard;
        }

        void look(int event, int place) {
            if (!score.isNote(place) || score.pitches[place] != heard.pitches[event]) return;
            if (count > 0 && place <= notes[count - 1]) count = 0;
            if (count >= MAX_NOTES) return;
            events[count] = event;
            notes[count] = place;
            count++;
        }

        int timeGone() {
            if (count < 2) return 1;
            return heard.times[events[count - 1]] - heard.times[events[firstOfLatest()]];
        }

        /** A divisor, so 1 at least; the document's STARTS grow by that anyway. */
        int startGrown() {
            if (count < 2) return 1;
            return Math.max(1, score.starts[notes[count - 1]] - score.starts[notes[firstOfLatest()]]);
        }

        long expected(int note) {
            if (count == 0) return STATE;
            long grows = score.starts[note] - score.starts[notes[count - 1]];
            return heard.times[events[count - 1]] + Math.floorDiv(grows * timeGone(), (long) startGrown());
        }

        private int firstOfLatest() {
            return Math.max(0, count - LATEST);
        }
    }

    /**
     * THE BEST: what is left to pay is found from the last EVENT back, then one COURSE is walked. It
     * may have thousands of STEPS, so only where each EVENT begins is kept, and STEPS are told by
     * walking on from there.
     */
    private static final class Best {
        private final Score score;
        private final Nexts nexts;
        private final Heard heard;
        private final int[] rest = new int[(MAX_EVENTS + 1) * PLACES];
        private final int[] stepsAhead = new int[MAX_EVENTS];
        private final int[] placeAhead = new int[MAX_EVENTS];
        final int[] matches = new int[MAX_EVENTS];
        final int[] played = new int[MAX_NOTES];
        final int[] right = new int[MAX_NOTES];
        final int[] passed = new int[MAX_NOTES];
        boolean known;
        int sum;
        int count;
        /** The STEP that was chosen last: its kind, the place to which it goes, its cost. */
        private int stepKind;
        private int stepTo;
        private int stepCost;

        Best(Score score, Nexts nexts, Heard heard) {
            this.score = score;
            this.nexts = nexts;
            this.heard = heard;
        }

        void find() {
            for (int i = 0; i <= score.notes; i++) rest[heard.count * PLACES + i] = 0;
            for (int event = heard.count - 1; event >= 0; event--) {
                weighTaking(event);
                weighPassing(event);
            }
            sum = restAt(0, NONE);
            walk();
            known = true;
        }

        int tell(int k, int what) {
            int event = eventOf(k);
            int place = placeAhead[event];
            for (int i = stepsAhead[event]; i <= k; i++) {
                choose(event, place);
                place = stepTo;
            }
            switch (what) {
                case 0: return stepKind;
                case 1: return stepTo;
                case 2: return stepKind == KIND_PASS ? NONE : event;
                default: return stepCost;
            }
        }

        boolean isTouched(int note) {
            return played[note] > 0 || passed[note] > 0;
        }

        boolean isFaultless(int note) {
            return played[note] > 0 && right[note] == played[note] && passed[note] == 0;
        }

        /** The least SUM from a place on, the EVENTS ahead of this one being taken. */
        private int restAt(int event, int place) {
            return rest[event * PLACES + place + 1];
        }

        private void lowerRest(int event, int place, int price) {
            int at = event * PLACES + place + 1;
            rest[at] = Math.min(rest[at], price);
        }

        private int playPrice(int next, int event) {
            return nexts.price[next] + score.mistake(nexts.note[next], heard.pitches[event]);
        }

        private int leapPrice(int note, int event) {
            return score.costs[LEAP] + score.mistake(note, heard.pitches[event]);
        }

        private int passPrice(int next) {
            return nexts.price[next] + score.costs[SKIP];
        }

        private void weighTaking(int event) {
            int leap = NO_VALUE;
            for (int note = score.firstThere(); note <= score.lastThere(); note++) {
                leap = Math.min(leap, leapPrice(note, event) + restAt(event + 1, note));
            }
            for (int place = NONE; place < score.notes; place++) {
                int extra = score.costs[EXTRA] + restAt(event + 1, place);
                rest[event * PLACES + place + 1] = Math.min(leap, extra);
            }
            for (int i = 0; i < nexts.count; i++) {
                int price = playPrice(i, event) + restAt(event + 1, nexts.note[i]);
                lowerRest(event, nexts.from[i], price);
            }
        }

        private void weighPassing(int event) {
            boolean changed = true;
            for (int round = 0; round < PLACES && changed; round++) {
                changed = false;
                // Downwards, so that one round carries a price through a whole chain of notes.
                for (int i = nexts.count - 1; i >= 0; i--) {
                    int price = passPrice(i) + restAt(event, nexts.note[i]);
                    if (price < restAt(event, nexts.from[i])) {
                        lowerRest(event, nexts.from[i], price);
                        changed = true;
                    }
                }
            }
        }

        private void walk() {
            forgetCourse();
            int place = NONE;
            for (int event = 0; event < heard.count; event++) {
                stepsAhead[event] = count;
                placeAhead[event] = place;
                place = walkThrough(event, place);
            }
        }

        private void forgetCourse() {
            count = 0;
            for (int note = 0; note < MAX_NOTES; note++) {
                played[note] = 0;
                right[note] = 0;
                passed[note] = 0;
            }
        }

        /** By PASSES and the STEP that takes the EVENT: where that goes to. */
        private int walkThrough(int event, int from) {
            int place = from;
            // No place is passed twice on the way to an EVENT, since each PASS costs.
            for (int i = 0; i < PLACES; i++) {
                choose(event, place);
                place = stepTo;
                count++;
                if (stepKind != KIND_PASS) break;
                passed[place]++;
            }
            match(event);
            return place;
        }

        private void match(int event) {
            boolean none = stepKind == KIND_EXTRA;
            matches[event] = none ? NONE : stepTo;
            if (none) return;
            played[stepTo]++;
            if (score.pitches[stepTo] == heard.pitches[event]) right[stepTo]++;
        }

        /** The EVENT that STEP k takes; of a PASS the one to which it is on the way. */
        private int eventOf(int k) {
            for (int event = heard.count - 1; event > 0; event--) {
                if (stepsAhead[event] <= k) return event;
            }
            return 0;
        }

        /** Of all STEPS that keep the least SUM the one that the document tells first. */
        private void choose(int event, int place) {
            if (plays(event, place) || stays(event, place) || passes(event, place)) return;
            leaps(event, place);
        }

        private boolean plays(int event, int place) {
            for (int i = nexts.beginOf(place); i < nexts.endOf(place); i++) {
                int allowed = restAt(event, place) - restAt(event + 1, nexts.note[i]);
                if (playPrice(i, event) == allowed) return chosen(KIND_PLAY, nexts.note[i], allowed);
            }
            return false;
        }

        private boolean stays(int event, int place) {
            int allowed = restAt(event, place) - restAt(event + 1, place);
            if (score.costs[EXTRA] != allowed) return false;
            return chosen(KIND_EXTRA, place, allowed);
        }

        private boolean passes(int event, int place) {
            for (int i = nexts.beginOf(place); i < nexts.endOf(place); i++) {
                int allowed = restAt(event, place) - restAt(event, nexts.note[i]);
                if (passPrice(i) == allowed) return chosen(KIND_PASS, nexts.note[i], allowed);
            }
            return false;
        }

        private boolean leaps(int event, int place) {
            for (int note = score.firstThere(); note <= score.lastThere(); note++) {
                int allowed = restAt(event, place) - restAt(event + 1, note);
                if (leapPrice(note, event) == allowed) return chosen(KIND_LEAP, note, allowed);
            }
            return false;
        }

        private boolean chosen(int kind, int to, int cost) {
            stepKind = kind;
            stepTo = to;
            stepCost = cost;
            return true;
        }
    }

    /** Which notes are DUE again, and the number of the session that runs. */
    private static final class Boxes {
        final int[] box = new int[MAX_NOTES];
        final int[] dueFrom = new int[MAX_NOTES];
        int session;

        void open(int note) {
            box[note] = 0;
            dueFrom[note] = 0;
        }

        void raise(int note) {
            put(note, Math.min(MAX_BOX, box[note] + 1));
        }

        void drop(int note) {
            put(note, 0);
        }

        /** With each BOX the sessions until the note is DUE again are twice as many. */
        private void put(int note, int to) {
            box[note] = to;
            dueFrom[note] = session + (1 << to);
        }

        int countDue(int notes) {
            int count = 0;
            for (int note = 0; note < notes; note++) {
                if (dueFrom[note] <= session) count++;
            }
            return count;
        }

        int dueAt(int k, int notes) {
            int left = k;
            for (int level = 0; level <= MAX_BOX; level++) {
                for (int note = 0; note < notes; note++) {
                    if (box[note] != level || dueFrom[note] > session) continue;
                    if (left == 0) return note;
                    left--;
                }
            }
            return NONE;
        }
    }
}
