/**
 * A store of line segments that live in time intervals: minima, ranks, lower envelopes, changes
 * over time, collected queries, dyadic divisions of lives, marks, scripts and undo.
 */
public final class SegmentTimes {
    /** There is no such thing. */
    public static final int NONE = -1;

    private static final int MOST_SEGMENTS = 40;
    private static final int MOST_QUERIES = 30;
    private static final int MOST_MARKS = 5;
    private static final int MOST_SAVED = 4;
    private static final int MOST_BYTES = 120;
    private static final int MOST_DIGITS = 7;
    private static final int MOST_NUMBERS = 4;
    private static final int MOST_SLOPE = 1000;
    private static final int MOST_OFFSET = 1000000;
    private static final int MOST_TICKS_PASSED = 1000;
    private static final int LAST_BYTE = 127;
    private static final int LAST_POSITION = 255;
    private static final int POSITIONS = 256;
    private static final int LAST_TICK = 16384;

    // The values of a segment, in the order in which segment() numbers them.
    private static final int SLOPE = 0;
    private static final int OFFSET = 1;
    private static final int LEFT = 2;
    private static final int RIGHT = 3;
    private static final int START = 4;
    private static final int END = 5;
    private static final int SEGMENT_VALUES = 6;

    // The values of a query; the three of its answer stand in the order in which answer() numbers them.
    private static final int POSITION = 0;
    private static final int TICK = 1;
    private static final int ANSWERED = 2;
    private static final int ANSWER = 3;
    private static final int QUERY_VALUES = 6;
    private static final int ANSWER_VALUES = 3;

    // The values of a piece, in the order in which piece() numbers them.
    private static final int PIECE_FIRST = 0;
    private static final int PIECE_LAST = 1;
    private static final int PIECE_VALUES = 3;

    // What a change answers instead of a result, which is never negative, when it cannot be made.
    private static final int NO_SUCH_SEGMENT = -1;
    private static final int BAD_ARGUMENT = -2;
    private static final int BAD_STATE = -3;

    private final State state;
    private final History history;
    private final Script script;
    private final Envelope envelope;

    /** Creates a store without segments, queries and marks, at tick 0. */
    public SegmentTimes() {
        state = new State();
        history = new History();
        script = new Script();
        envelope = new Envelope();
    }

    // ---- segments

    /** Adds a segment that lives from the present tick on, without an end; returns its number. */
    public int add(int a, int b, int x1, int x2) throws IllegalArgumentException, IllegalStateException {
        history.keep(state);
        return confirmed(state.tryAdd(a, b, x1, x2));
    }

    /** Adds a segment through one or two points, with a life of its own; returns its number. */
    public int addThrough(int x1, int y1, int x2, int y2, int t1, int t2)
            throws IllegalArgumentException, IllegalStateException {
        history.keep(state);
        return confirmed(state.tryAddThrough(x1, y1, x2, y2, t1, t2));
    }

    /** Ends the life of a segment at the present tick; returns the number of ticks that it has lived. */
    public int end(int segment) throws IndexOutOfBoundsException, IllegalStateException {
        history.keep(state);
        return confirmed(state.tryEnd(segment));
    }

    /** Replaces a segment by a higher or lower one from the present tick on; returns the new number. */
    public int lift(int segment, int difference)
            throws IndexOutOfBoundsException, IllegalArgumentException, IllegalStateException {
        history.keep(state);
        return confirmed(state.tryLift(segment, difference));
    }

    /** Lets the present tick increase; returns the present tick afterwards. */
    public int pass(int ticks) throws IllegalArgumentException, IllegalStateException {
        history.keep(state);
        return confirmed(state.tryPass(ticks));
    }

    /** Returns the present tick. */
    public int now() {
        return state.store.now;
    }

    /** Returns the number of segments that have been added. */
    public int segments() {
        return state.store.size;
    }

    /** Returns a value of a segment: 0 slope, 1 offset, 2 x1, 3 x2, 4 t1, 5 t2. */
    public int segment(int segment, int what) throws IndexOutOfBoundsException, IllegalArgumentException {
        requireSegment(segment);
        requireBetween(what, 0, SEGMENT_VALUES - 1);
        return state.store.value(segment, what);
    }

    // ---- minima

    /** Returns the minimum at a position and a tick; Long.MAX_VALUE if no segment is there. */
    public long minimum(int x, int t) throws IllegalArgumentException {
        requirePlace(x, t);
        Store store = state.store;
        int first = store.firstAt(x, t);
        return first == NONE ? Long.MAX_VALUE : store.height(first, x);
    }

    /** Returns the segment at a place of the ranking at a position and a tick, or NONE. */
    public int ranked(int x, int t, int place) throws IllegalArgumentException {
        requirePlace(x, t);
        if (place < 0) {
            throw new IllegalArgumentException("the place is negative");
        }
        return state.store.atPlace(x, t, place);
    }

    /** Counts the segments that are there at a position and a tick with a value below a limit. */
    public int below(int x, int t, long limit) throws IllegalArgumentException {
        requirePlace(x, t);
        return state.store.countBelow(x, t, limit);
    }

    /** Returns the smallest common position at which the second segment is below the first one, or NONE. */
    public int overtakes(int first, int second) throws IndexOutOfBoundsException {
        requireSegment(first);
        requireSegment(second);
        return state.store.crossing(first, second, 0, 0);
    }

    // ---- envelope

    /** Returns the number of pieces of the envelope at a tick. */
    public int pieces(int t) throws IllegalArgumentException {
        buildEnvelope(t);
        return envelope.size;
    }

    /** Returns a value of a piece of the envelope: 0 first position, 1 last position, 2 segment or NONE. */
    public int piece(int t, int piece, int what) throws IllegalArgumentException, IndexOutOfBoundsException {
        requireBetween(what, 0, PIECE_VALUES - 1);
        buildEnvelope(t);
        if (piece < 0 || piece >= envelope.size) {
            throw new IndexOutOfBoundsException("no such piece");
        }
        return envelope.value(piece, what);
    }

    /** Returns the sum of the minima at a tick over the positions of a range at which a segment is there. */
    public long sum(int t, int x1, int x2) throws IllegalArgumentException {
        requireBetween(x2, 0, LAST_POSITION);
        requireBetween(x1, 0, x2);
        buildEnvelope(t);
        return envelope.sumBetween(state.store, x1, x2);
    }

    /** Counts the positions at which a segment is the first one in the ranking at a tick. */
    public int visible(int segment, int t) throws IndexOutOfBoundsException, IllegalArgumentException {
        requireSegment(segment);
        buildEnvelope(t);
        return envelope.positionsOf(segment);
    }

    /** Counts the segments that are live at a tick, but first in the ranking at no position. */
    public int hidden(int t) throws IllegalArgumentException {
        buildEnvelope(t);
        Store store = state.store;
        int count = 0;
        for (int segment = 0; segment < store.size; segment++) {
            if (store.isLive(segment, t) && envelope.positionsOf(segment) == 0) {
                count++;
            }
        }
        return count;
    }

    /** Returns the smallest position with the smallest (or greatest) minimum at a tick, or NONE. */
    public int extreme(int t, boolean greatest) throws IllegalArgumentException {
        buildEnvelope(t);
        return envelope.extremePosition(state.store, greatest);
    }

    // ---- over time

    /** Counts the ticks after from, up to and including to, with another first segment than the tick before. */
    public int changes(int x, int from, int to) throws IllegalArgumentException {
        requireSpan(x, from, to);
        return state.store.countChanges(x, from, to);
    }

    /** Returns the first tick after t with another first segment than the tick before, or NONE. */
    public int nextChange(int x, int t) throws IllegalArgumentException {
        requirePlace(x, t);
        return state.store.changeAfter(x, t);
    }

    /** Returns the smallest (or greatest) minimum at a position over ticks; Long.MAX_VALUE if there is none. */
    public long overTime(int x, int from, int to, boolean greatest) throws IllegalArgumentException {
        requireSpan(x, from, to);
        return state.store.extremeMinimum(x, from, to, greatest);
    }

    /** Counts the ticks at which a segment is the first one in the ranking at a position. */
    public int leads(int segment, int x) throws IndexOutOfBoundsException, IllegalArgumentException {
        requireSegment(segment);
        requireBetween(x, 0, LAST_POSITION);
        return state.store.ticksLed(segment, x);
    }

    // ---- dyadic intervals

    /** Returns the number of intervals of the canonical division of the life of a segment. */
    public int intervals(int segment) throws IndexOutOfBoundsException {
        requireSegment(segment);
        Store store = state.store;
        return Dyadic.count(store.value(segment, START), store.value(segment, END));
    }

    /** Returns the number of ticks, or the first tick, of an interval of a canonical division. */
    public int interval(int segment, int interval, boolean length) throws IndexOutOfBoundsException {
        requireSegment(segment);
        Store store = state.store;
        int end = store.value(segment, END);
        int first = Dyadic.firstTick(store.value(segment, START), end, interval);
        if (first == NONE) {
            throw new IndexOutOfBoundsException("no such interval");
        }
        return length ? Dyadic.largest(first, end) : first;
    }

    /** Counts the segments whose canonical division contains a dyadic interval. */
    public int holders(int start, int length) throws IllegalArgumentException {
        if (!Dyadic.isInterval(start, length)) {
            throw new IllegalArgumentException("this is no dyadic interval");
        }
        Store store = state.store;
        int count = 0;
        for (int segment = 0; segment < store.size; segment++) {
            if (Dyadic.holds(store.value(segment, START), store.value(segment, END), start, length)) {
                count++;
            }
        }
        return count;
    }

    // ---- queries

    /** Collects a query; returns its number. */
    public int collect(int x, int t) throws IllegalArgumentException, IllegalStateException {
        history.keep(state);
        return confirmed(state.tryCollect(x, t));
    }

    /** Answers all queries; returns the number of those at whose position and tick a segment is there. */
    public int solve() {
        history.keep(state);
        return confirmed(state.queries.answerAll(state.store));
    }

    /** Returns the answer to a query: 0 the minimum, 1 its segment, 2 the number of segments there. */
    public long answer(int query, int what)
            throws IndexOutOfBoundsException, IllegalArgumentException, IllegalStateException {
        Queries queries = state.queries;
        if (query < 0 || query >= queries.size) {
            throw new IndexOutOfBoundsException("no such query");
        }
        requireBetween(what, 0, ANSWER_VALUES - 1);
        if (!queries.isAnswered(query)) {
            throw new IllegalStateException("the query has no answer");
        }
        return queries.answerValue(query, what);
    }

    /** Removes all queries; returns the number of queries that there were. */
    public int forget() {
        history.keep(state);
        return confirmed(state.queries.removeAll());
    }

    // ---- marks

    /** Sets a mark; returns the number of marks. */
    public int mark() throws IllegalStateException {
        history.keep(state);
        return confirmed(state.tryMark());
    }

    /** Rolls back to the latest mark; returns the number of marks that are left. */
    public int rollBack() throws IllegalStateException {
        history.keep(state);
        return confirmed(state.tryRollBack());
    }

    // ---- text

    /** Appends a byte to the script text; returns the new length of the text. */
    public int append(int value) throws IllegalArgumentException, IllegalStateException {
        requireBetween(value, 0, LAST_BYTE);
        if (script.length >= MOST_BYTES) {
            throw new IllegalStateException("the text is full");
        }
        return script.put(value);
    }

    /** Empties the script text; returns the length that it had. */
    public int clearText() {
        return script.wipe();
    }

    /**
     * Carries out the commands of the text, all of them or none; returns their number, or -10 minus
     * the syntax error position, or -1000 minus the index of the first command that would throw.
     */
    public int carryOut() {
        int wrong = script.syntaxError();
        if (wrong != NONE) {
            return -10 - wrong;
        }
        history.keep(state);
        script.restart();
        int done = 0;
        while (done < MOST_BYTES && script.readCommand()) {
            if (perform() < 0) {
                history.bringBack(state);
                return -1000 - done;
            }
            done++;
        }
        history.confirm();
        return done;
    }

    // ---- state

    /** Restores the most recently saved state; returns the number of saved states that remain. */
    public int undo() throws IllegalStateException {
        if (history.saved <= 0) {
            throw new IllegalStateException("no saved state");
        }
        return history.takeBack(state);
    }

    /** Returns a hash of the state. */
    public long digest() {
        Store store = state.store;
        long h = mixed(2927, script.length);
        h = store.mixedInto(h);
        h = state.queries.mixedInto(h);
        h = mixed(h, state.marked);
        envelope.build(store, store.now);
        h = envelope.mixedInto(h);
        h = mixed(h, envelope.sumBetween(store, 0, LAST_POSITION));
        return mixed(h, history.saved);
    }

    // ---- what the face shares

    /** Saves the kept state if a change was made; throws what is due if it could not be made. */
    private int confirmed(int result) {
        if (result == NO_SUCH_SEGMENT) {
            throw new IndexOutOfBoundsException("no such segment");
        }
        if (result == BAD_ARGUMENT) {
            throw new IllegalArgumentException("an argument is out of range");
        }
        if (result < 0) {
            throw new IllegalStateException("the store does not allow this now");
        }
        history.confirm();
        return result;
    }

    /** Makes the change that the script's present command asks for. */
    private int perform() {
        switch (script.command) {
            case 'a':
                return state.tryAdd(script.number(0), script.number(1), script.number(2), script.number(3));
            case 'e':
                return state.tryEnd(script.number(0));
            case 't':
                return state.tryPass(script.number(0));
            case 'm':
                return state.tryLift(script.number(0), script.number(1));
            case 'q':
                return state.tryCollect(script.number(0), script.number(1));
            default:
                return state.queries.answerAll(state.store);
        }
    }

    private void buildEnvelope(int t) {
        requireBetween(t, 0, LAST_TICK);
        envelope.build(state.store, t);
    }

    private void requireSegment(int segment) {
        if (!state.store.has(segment)) {
            throw new IndexOutOfBoundsException("no such segment");
        }
    }

    private static void requirePlace(int x, int t) {
        requireBetween(x, 0, LAST_POSITION);
        requireBetween(t, 0, LAST_TICK);
    }

    private static void requireSpan(int x, int from, int to) {
        requireBetween(x, 0, LAST_POSITION);
        requireBetween(to, 0, LAST_TICK);
        requireBetween(from, 0, to);
    }

    private static void requireBetween(int value, int low, int high) {
        if (!isBetween(value, low, high)) {
            throw new IllegalArgumentException("an argument is out of range");
        }
    }

    private static boolean isBetween(int value, int low, int high) {
        return low <= value && value <= high;
    }

    private static long mixed(long h, long value) {
        return 31 * h + value;
    }

    /** The segments and the present tick: all that a mark remembers. */
    private static final class Store {
        int now;
        int size;
        private final int[] values;

        Store() {
            values = new int[MOST_SEGMENTS * SEGMENT_VALUES];
        }

        void copyFrom(Store other) {
            now = other.now;
            size = Math.max(0, Math.min(other.size, MOST_SEGMENTS));
            System.arraycopy(other.values, 0, values, 0, size * SEGMENT_VALUES);
        }

        boolean has(int segment) {
            return segment >= 0 && segment < size;
        }

        boolean isFull() {
            return size >= MOST_SEGMENTS;
        }

        int value(int segment, int what) {
            int at = segment * SEGMENT_VALUES + what;
            return at >= 0 && at < values.length ? values[at] : 0;
        }

        void set(int segment, int what, int value) {
            int at = segment * SEGMENT_VALUES + what;
            if (at >= 0 && at < values.length) {
                values[at] = value;
            }
        }

        int insert(int slope, int offset, int left, int right, int start, int end) {
            int segment = size;
            set(segment, SLOPE, slope);
            set(segment, OFFSET, offset);
            set(segment, LEFT, left);
            set(segment, RIGHT, right);
            set(segment, START, start);
            set(segment, END, end);
            size++;
            return segment;
        }

        boolean isLive(int segment, int t) {
            return value(segment, START) <= t && t < value(segment, END);
        }

        boolean covers(int segment, int x) {
            return value(segment, LEFT) <= x && x <= value(segment, RIGHT);
        }

        boolean isThere(int segment, int x, int t) {
            return covers(segment, x) && isLive(segment, t);
        }

        int height(int segment, int x) {
            return value(segment, SLOPE) * x + value(segment, OFFSET);
        }

        /** The first segment of the ranking at a position and a tick, or NONE. */
        int firstAt(int x, int t) {
            int first = NONE;
            int least = 0;
            for (int segment = 0; segment < size; segment++) {
                if (isThere(segment, x, t)) {
                    int height = height(segment, x);
                    if (first == NONE || height < least) {
                        first = segment;
                        least = height;
                    }
                }
            }
            return first;
        }

        int atPlace(int x, int t, int place) {
            for (int segment = 0; segment < size; segment++) {
                if (isThere(segment, x, t) && countAhead(segment, x, t) == place) {
                    return segment;
                }
            }
            return NONE;
        }

        /** How many segments the ranking at a position and a tick puts before a segment. */
        private int countAhead(int segment, int x, int t) {
            int height = height(segment, x);
            int count = 0;
            for (int other = 0; other < size; other++) {
                // an equal value comes first only with a smaller number
                int limit = other < segment ? height + 1 : height;
                if (isThere(other, x, t) && height(other, x) < limit) {
                    count++;
                }
            }
            return count;
        }

        int countBelow(int x, int t, long limit) {
            int count = 0;
            for (int segment = 0; segment < size; segment++) {
                if (isThere(segment, x, t) && height(segment, x) < limit) {
                    count++;
                }
            }
            return count;
        }

        /**
         * The smallest position from a given one on, in the ranges of both segments, at which the
         * value of the second one is less than that of the first one plus a handicap; or NONE.
         */
        int crossing(int first, int second, int from, int handicap) {
            int low = Math.max(from, Math.max(value(first, LEFT), value(second, LEFT)));
            int high = Math.min(value(first, RIGHT), value(second, RIGHT));
            int rise = value(second, SLOPE) - value(first, SLOPE);
            int base = value(second, OFFSET) - value(first, OFFSET) - handicap;
            if (low > high) {
                return NONE;
            }
            if (rise * low + base < 0) {
                return low;
            }
            if (rise >= 0) {
                return NONE;
            }
            // the difference falls below 0 right after the zero of rise * x + base
            int position = base / -rise + 1;
            return position <= high ? position : NONE;
        }

        /** The last position up to which a segment (or NONE) goes on being the first one after x. */
        int lastLed(int leader, int x, int t) {
            int last = leader == NONE ? LAST_POSITION : value(leader, RIGHT);
            for (int other = 0; other < size; other++) {
                if (other != leader && isLive(other, t)) {
                    int turn = leader == NONE
                            ? value(other, LEFT)
                            : crossing(leader, other, x + 1, other < leader ? 1 : 0);
                    if (turn > x && turn <= last) {
                        last = turn - 1;
                    }
                }
            }
            return last;
        }

        /** The first tick after t at which a life at a position starts or ends; above LAST_TICK if none does. */
        private int nextTurn(int x, int t) {
            int turn = LAST_TICK + 1;
            for (int segment = 0; segment < size; segment++) {
                if (covers(segment, x)) {
                    int start = value(segment, START);
                    int end = value(segment, END);
                    if (start > t && start < turn) {
                        turn = start;
                    }
                    if (end > t && end < turn) {
                        turn = end;
                    }
                }
            }
            return turn;
        }

        int changeAfter(int x, int t) {
            int leader = firstAt(x, t);
            // between turns the ranking stays as it is, so looking at the turns is enough
            int tick = nextTurn(x, t);
            for (int step = 0; step <= LAST_TICK && tick <= LAST_TICK; step++) {
                if (firstAt(x, tick) != leader) {
                    return tick;
                }
                tick = nextTurn(x, tick);
            }
            return NONE;
        }

        int countChanges(int x, int from, int to) {
            int tick = changeAfter(x, from);
            int count = 0;
            while (count <= LAST_TICK && tick != NONE && tick <= to) {
                count++;
                tick = changeAfter(x, tick);
            }
            return count;
        }

        long extremeMinimum(int x, int from, int to, boolean greatest) {
            long best = Long.MAX_VALUE;
            int tick = from;
            for (int step = 0; step <= LAST_TICK && tick <= to; step++) {
                int leader = firstAt(x, tick);
                if (leader != NONE) {
                    long height = height(leader, x);
                    if (best == Long.MAX_VALUE || (greatest ? height > best : height < best)) {
                        best = height;
                    }
                }
                tick = nextTurn(x, tick);
            }
            return best;
        }

        int ticksLed(int segment, int x) {
            int end = value(segment, END);
            int tick = value(segment, START);
            int count = 0;
            for (int step = 0; step <= LAST_TICK && tick < end; step++) {
                int next = Math.min(nextTurn(x, tick), end);
                if (firstAt(x, tick) == segment) {
                    count += next - tick;
                }
                tick = next;
            }
            return count;
        }

        long mixedInto(long h) {
            h = mixed(h, now);
            h = mixed(h, size);
            for (int segment = 0; segment < size; segment++) {
                for (int what = 0; what < SEGMENT_VALUES; what++) {
                    h = mixed(h, value(segment, what));
                }
            }
            return h;
        }
    }

    /** The collected queries with their answers. */
    private static final class Queries {
        int size;
        private final int[] values;

        Queries() {
            values = new int[MOST_QUERIES * QUERY_VALUES];
        }

        void copyFrom(Queries other) {
            size = Math.max(0, Math.min(other.size, MOST_QUERIES));
            System.arraycopy(other.values, 0, values, 0, size * QUERY_VALUES);
        }

        boolean isFull() {
            return size >= MOST_QUERIES;
        }

        private int value(int query, int what) {
            int at = query * QUERY_VALUES + what;
            return at >= 0 && at < values.length ? values[at] : 0;
        }

        private void set(int query, int what, int value) {
            int at = query * QUERY_VALUES + what;
            if (at >= 0 && at < values.length) {
                values[at] = value;
            }
        }

        int insert(int x, int t) {
            int query = size;
            set(query, POSITION, x);
            set(query, TICK, t);
            set(query, ANSWERED, 0);
            size++;
            return query;
        }

        int removeAll() {
            int removed = size;
            size = 0;
            return removed;
        }

        /** Answers all queries; returns the number of those with a segment there. */
        int answerAll(Store store) {
            int found = 0;
            for (int query = 0; query < size; query++) {
                int x = value(query, POSITION);
                int t = value(query, TICK);
                int first = store.firstAt(x, t);
                set(query, ANSWERED, 1);
                set(query, ANSWER, first == NONE ? 0 : store.height(first, x));
                set(query, ANSWER + 1, first);
                set(query, ANSWER + 2, store.countBelow(x, t, Long.MAX_VALUE));
                if (first != NONE) {
                    found++;
                }
            }
            return found;
        }

        boolean isAnswered(int query) {
            return value(query, ANSWERED) == 1;
        }

        long answerValue(int query, int what) {
            if (what == 0 && value(query, ANSWER + 1) == NONE) {
                return Long.MAX_VALUE;
            }
            return value(query, ANSWER + what);
        }

        long mixedInto(long h) {
            h = mixed(h, size);
            for (int query = 0; query < size; query++) {
                h = mixed(h, value(query, POSITION));
                h = mixed(h, value(query, TICK));
                h = mixed(h, value(query, ANSWERED));
                if (isAnswered(query)) {
                    for (int what = 0; what < ANSWER_VALUES; what++) {
                        h = mixed(h, answerValue(query, what));
                    }
                }
            }
            return h;
        }
    }

    /** All that undo() restores, with the changes that can be made to it. */
    private static final class State {
        final Store store;
        final Queries queries;
        int marked;
        private final Store[] marks;

        State() {
            store = new Store();
            queries = new Queries();
            marks = new Store[MOST_MARKS];
            for (int i = 0; i < marks.length; i++) {
                marks[i] = new Store();
            }
        }

        void copyFrom(State other) {
            store.copyFrom(other.store);
            queries.copyFrom(other.queries);
            marked = other.marked;
            for (int i = 0; i < MOST_MARKS && i < marked; i++) {
                marks[i].copyFrom(other.marks[i]);
            }
        }

        int tryAdd(int a, int b, int x1, int x2) {
            if (!isLine(a, b) || !isBetween(x2, 0, LAST_POSITION) || !isBetween(x1, 0, x2)) {
                return BAD_ARGUMENT;
            }
            if (store.isFull()) {
                return BAD_STATE;
            }
            return store.insert(a, b, x1, x2, store.now, LAST_TICK);
        }

        int tryAddThrough(int x1, int y1, int x2, int y2, int t1, int t2) {
            if (!isBetween(x2, 0, LAST_POSITION) || !isBetween(x1, 0, x2)
                    || !isBetween(t2, 0, LAST_TICK) || !isBetween(t1, 0, t2)
                    || !isOffset(y1) || !isOffset(y2)) {
                return BAD_ARGUMENT;
            }
            int width = x2 - x1;
            int climb = y2 - y1;
            if (width == 0 ? climb != 0 : climb % width != 0) {
                return BAD_ARGUMENT;
            }
            int slope = width == 0 ? 0 : climb / width;
            int offset = y1 - slope * x1;
            if (!isLine(slope, offset)) {
                return BAD_ARGUMENT;
            }
            if (store.isFull()) {
                return BAD_STATE;
            }
            return store.insert(slope, offset, x1, x2, t1, t2);
        }

        int tryEnd(int segment) {
            if (!store.has(segment)) {
                return NO_SUCH_SEGMENT;
            }
            if (!store.isLive(segment, store.now)) {
                return BAD_STATE;
            }
            store.set(segment, END, store.now);
            return store.now - store.value(segment, START);
        }

        int tryLift(int segment, int difference) {
            if (!store.has(segment)) {
                return NO_SUCH_SEGMENT;
            }
            // the difference is looked at first, so that the sum cannot wrap around
            if (!isOffset(difference) || !isOffset(store.value(segment, OFFSET) + difference)) {
                return BAD_ARGUMENT;
            }
            if (!store.isLive(segment, store.now) || store.isFull()) {
                return BAD_STATE;
            }
            int end = store.value(segment, END);
            store.set(segment, END, store.now);
            return store.insert(store.value(segment, SLOPE), store.value(segment, OFFSET) + difference,
                    store.value(segment, LEFT), store.value(segment, RIGHT), store.now, end);
        }

        int tryPass(int ticks) {
            if (!isBetween(ticks, 0, MOST_TICKS_PASSED)) {
                return BAD_ARGUMENT;
            }
            if (store.now + ticks >= LAST_TICK) {
                return BAD_STATE;
            }
            store.now += ticks;
            return store.now;
        }

        int tryCollect(int x, int t) {
            if (!isBetween(x, 0, LAST_POSITION) || !isBetween(t, 0, LAST_TICK)) {
                return BAD_ARGUMENT;
            }
            return queries.isFull() ? BAD_STATE : queries.insert(x, t);
        }

        int tryMark() {
            if (marked < 0 || marked >= MOST_MARKS) {
                return BAD_STATE;
            }
            marks[marked].copyFrom(store);
            marked++;
            return marked;
        }

        int tryRollBack() {
            if (marked <= 0 || marked > MOST_MARKS) {
                return BAD_STATE;
            }
            marked--;
            store.copyFrom(marks[marked]);
            return marked;
        }

        private static boolean isLine(int slope, int offset) {
            return isBetween(slope, -MOST_SLOPE, MOST_SLOPE) && isOffset(offset);
        }

        private static boolean isOffset(int value) {
            return isBetween(value, -MOST_OFFSET, MOST_OFFSET);
        }
    }

    /**
     * The saved states, in a ring with one slot more than can be saved: the free slot keeps the state
     * from before a change of which it is not known yet whether it can be made.
     */
    private static final class History {
        private static final int SLOTS = MOST_SAVED + 1;

        int saved;
        private int oldest;
        private final State[] slots;

        History() {
            slots = new State[SLOTS];
            for (int i = 0; i < slots.length; i++) {
                slots[i] = new State();
            }
        }

        private State freeSlot() {
            return slots[Math.floorMod(oldest + saved, SLOTS)];
        }

        void keep(State state) {
            freeSlot().copyFrom(state);
        }

        void bringBack(State state) {
            state.copyFrom(freeSlot());
        }

        /** Makes what was kept last a saved state; with too many of them the oldest one is dropped. */
        void confirm() {
            if (saved < MOST_SAVED) {
                saved++;
            } else {
                oldest = (oldest + 1) % SLOTS;
            }
        }

        int takeBack(State state) {
            saved--;
            bringBack(state);
            return saved;
        }
    }

    /** The pieces of the lower envelope at the tick for which it was built last. */
    private static final class Envelope {
        int size;
        private final int[] lasts;
        private final int[] leaders;

        Envelope() {
            lasts = new int[POSITIONS];
            leaders = new int[POSITIONS];
        }

        void build(Store store, int t) {
            size = 0;
            int x = 0;
            while (size < POSITIONS && x <= LAST_POSITION) {
                leaders[size] = store.firstAt(x, t);
                lasts[size] = store.lastLed(leaders[size], x, t);
                x = lasts[size] + 1;
                size++;
            }
        }

        int value(int piece, int what) {
            if (what == PIECE_FIRST) {
                return first(piece);
            }
            return what == PIECE_LAST ? last(piece) : leader(piece);
        }

        private int first(int piece) {
            return piece == 0 ? 0 : last(piece - 1) + 1;
        }

        private int last(int piece) {
            return piece >= 0 && piece < lasts.length ? lasts[piece] : LAST_POSITION;
        }

        private int leader(int piece) {
            return piece >= 0 && piece < leaders.length ? leaders[piece] : NONE;
        }

        int positionsOf(int segment) {
            int count = 0;
            for (int piece = 0; piece < size; piece++) {
                if (leader(piece) == segment) {
                    count += last(piece) - first(piece) + 1;
                }
            }
            return count;
        }

        long sumBetween(Store store, int x1, int x2) {
            long sum = 0;
            for (int piece = 0; piece < size; piece++) {
                int from = Math.max(x1, first(piece));
                int to = Math.min(x2, last(piece));
                int leader = leader(piece);
                if (from <= to && leader != NONE) {
                    // the values rise evenly, so their sum is their number times the mean of the outer two
                    long outer = (long) store.height(leader, from) + store.height(leader, to);
                    sum += (to - from + 1) * outer / 2;
                }
            }
            return sum;
        }

        int extremePosition(Store store, boolean greatest) {
            int best = NONE;
            int bestHeight = 0;
            for (int piece = 0; piece < size; piece++) {
                int leader = leader(piece);
                if (leader != NONE) {
                    int slope = store.value(leader, SLOPE);
                    boolean atLast = greatest ? slope > 0 : slope < 0;
                    int x = atLast ? last(piece) : first(piece);
                    int height = store.height(leader, x);
                    if (best == NONE || (greatest ? height > bestHeight : height < bestHeight)) {
                        best = x;
                        bestHeight = height;
                    }
                }
            }
            return best;
        }

        long mixedInto(long h) {
            h = mixed(h, size);
            for (int piece = 0; piece < size; piece++) {
                for (int what = 0; what < PIECE_VALUES; what++) {
                    h = mixed(h, value(piece, what));
                }
            }
            return h;
        }
    }

    /** Canonical divisions of lives, which go from a tick on until before another one. */
    private static final class Dyadic {
        /** Whether there is a dyadic interval within the ticks of the store with this start and length. */
        static boolean isInterval(int start, int length) {
            return isBetween(length, 1, LAST_TICK) && (length & (length - 1)) == 0
                    && isBetween(start, 0, LAST_TICK - length) && (start & (length - 1)) == 0;
        }

        /** The length of the largest dyadic interval that starts at a tick and lies before an end. */
        static int largest(int start, int end) {
            int length = start == 0 ? LAST_TICK : start & -start;
            while (length > 1 && length > end - start) {
                length /= 2;
            }
            return length;
        }

        static int count(int start, int end) {
            int count = 0;
            int tick = start;
            while (count < LAST_TICK && tick < end) {
                tick += largest(tick, end);
                count++;
            }
            return count;
        }

        /** The first tick of an interval of the division of a life, or NONE if there is no such interval. */
        static int firstTick(int start, int end, int interval) {
            int tick = start;
            for (int i = 0; i < interval && tick < end; i++) {
                tick += largest(tick, end);
            }
            return interval >= 0 && tick < end ? tick : NONE;
        }

        /** Whether the division of a life contains a dyadic interval: it fits, but the next larger one does not. */
        static boolean holds(int from, int to, int start, int length) {
            if (start < from || start + length > to) {
                return false;
            }
            int wideLength = 2 * length;
            int wideStart = start & -wideLength;
            return wideLength > LAST_TICK || wideStart < from || wideStart + wideLength > to;
        }
    }

    /** The script text, and the command that was read from it last. */
    private static final class Script {
        int length;
        int command;
        private int place;
        private final int[] bytes;
        private final int[] numbers;

        Script() {
            bytes = new int[MOST_BYTES];
            numbers = new int[MOST_NUMBERS];
        }

        int put(int value) {
            if (length >= 0 && length < bytes.length) {
                bytes[length] = value;
                length++;
            }
            return length;
        }

        int wipe() {
            int had = length;
            length = 0;
            return had;
        }

        int number(int index) {
            return index >= 0 && index < numbers.length ? numbers[index] : 0;
        }

        void restart() {
            place = 0;
        }

        /** The index of the first byte that cannot stand where it stands, or NONE if all can. */
        int syntaxError() {
            restart();
            for (int i = 0; i < MOST_BYTES && place < length; i++) {
                if (!readCommand()) {
                    return place;
                }
            }
            return NONE;
        }

        /** Reads a command; if there is none, the place is left at the byte that cannot stand there. */
        boolean readCommand() {
            command = next();
            int count = numbersOf(command);
            if (count == NONE) {
                return false;
            }
            place++;
            for (int i = 0; i < count; i++) {
                if (!readNumber(i)) {
                    return false;
                }
            }
            return skip(';');
        }

        private boolean readNumber(int index) {
            if (!skip(' ')) {
                return false;
            }
            boolean negative = skip('-');
            int value = 0;
            int digits = 0;
            while (digits < MOST_DIGITS && isBetween(next(), '0', '9')) {
                value = 10 * value + next() - '0';
                digits++;
                place++;
            }
            if (index >= 0 && index < numbers.length) {
                numbers[index] = negative ? -value : value;
            }
            return digits > 0;
        }

        private boolean skip(int sign) {
            if (next() != sign) {
                return false;
            }
            place++;
            return true;
        }

        /** The byte at the place, or NONE at the end of the text. */
        private int next() {
            return place >= 0 && place < length && place < bytes.length ? bytes[place] : NONE;
        }

        /** How many numbers a command takes, or NONE if there is no such command. */
        private static int numbersOf(int command) {
            switch (command) {
                case 'a':
                    return 4;
                case 'm':
                case 'q':
                    return 2;
                case 'e':
                case 't':
                    return 1;
                case 's':
                    return 0;
                default:
                    return NONE;
            }
        }
    }
}
