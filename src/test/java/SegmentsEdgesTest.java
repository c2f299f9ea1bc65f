/** Promises 1 to 9, and their words in the Description: each sentence that names an edge. */
public final class SegmentsEdgesTest {
    private static final int LAST = 16383;

    public static void main(String[] args) {
        newObjectIsEmpty();
        newObjectHasNoSegment();
        addRanges();
        addLivesFromThePresentTickOn();
        addWhenFull();
        endedSegmentsKeepTheirNumbers();
        addThroughPositions();
        addThroughValues();
        addThroughSlopeAndOffset();
        addThroughLives();
        addThroughWhenFull();
        endRanges();
        endWhereNotLive();
        endAnswersTicksLived();
        liftRanges();
        liftWhereNotLive();
        liftWhenFull();
        liftKeepsTheRest();
        passRanges();
        passToTheLastTick();
        nowAndSegments();
        segmentRanges();
        undoable();
        Due.finish();
    }

    /** "Creates a store without segments, queries and marks, at tick 0." */
    private static void newObjectIsEmpty() {
        Edge.Maker made = SegmentTimes::new;
        Edge.answers("now() of a new object", made, 0, x -> x.now());
        Edge.answers("segments() of a new object", made, 0, x -> x.segments());
        Edge.answers("solve() of a new object", made, 0, x -> x.solve());
        Edge.answers("forget() of a new object", made, 0, x -> x.forget());
        Edge.answers("collect() of a new object", made, 0, x -> x.collect(0, 0));
        Edge.answers("mark() of a new object", made, 1, x -> x.mark());
        Edge.answers("clearText() of a new object", made, 0, x -> x.clearText());
        Edge.answers("append() of a new object", made, 1, x -> x.append(0));
        Edge.answers("carryOut() of a new object", made, 0, x -> x.carryOut());
        Edge.answers("holders() of a new object", made, 0, x -> x.holders(0, 16384));
        Edge.refused("rollBack() of a new object", made, Due.STATE, x -> x.rollBack());
        Edge.refused("undo() of a new object", made, Due.STATE, x -> x.undo());
        Edge.refused("answer() of a new object", made, Due.INDEX, x -> x.answer(0, 0));
    }

    /** A number that has not been given is that of no segment, even the first one. */
    private static void newObjectHasNoSegment() {
        Edge.Maker made = SegmentTimes::new;
        Edge.refused("end(0) of a new object", made, Due.INDEX, x -> x.end(0));
        Edge.refused("lift(0, 0) of a new object", made, Due.INDEX, x -> x.lift(0, 0));
        Edge.refused("segment(0, 0) of a new object", made, Due.INDEX, x -> x.segment(0, 0));
        Edge.refused("overtakes(0, 0) of a new object", made, Due.INDEX, x -> x.overtakes(0, 0));
        Edge.refused("visible(0, 0) of a new object", made, Due.INDEX, x -> x.visible(0, 0));
        Edge.refused("leads(0, 0) of a new object", made, Due.INDEX, x -> x.leads(0, 0));
        Edge.refused("intervals(0) of a new object", made, Due.INDEX, x -> x.intervals(0));
        Edge.refused("interval(0, 0, true) of a new object", made, Due.INDEX, x -> x.interval(0, 0, true));
    }

    /** "slope, -1000 to 1000", "offset, -1000000 to 1000000", "x1: 0 to x2", "x2: x1 to 255" */
    private static void addRanges() {
        Edge.range("add, a", Edge::rich, -1000, 1000, Due.ARGUMENT, (x, v) -> x.add(v, 0, 0, 0));
        Edge.range("add, b", Edge::rich, -1000000, 1000000, Due.ARGUMENT, (x, v) -> x.add(0, v, 0, 0));
        for (int x2 : new int[] {0, 100, 255}) {
            Edge.range("add, x1 up to " + x2, Edge::rich, 0, x2, Due.ARGUMENT, (x, v) -> x.add(0, 0, v, x2));
        }
        for (int x1 : new int[] {0, 100, 255}) {
            Edge.range("add, x2 from " + x1, Edge::rich, x1, 255, Due.ARGUMENT, (x, v) -> x.add(0, 0, x1, v));
        }
        Edge.refused("add(0, 0, -1, -1)", Edge::rich, Due.ARGUMENT, x -> x.add(0, 0, -1, -1));
        Edge.refused("add(0, 0, 256, 256)", Edge::rich, Due.ARGUMENT, x -> x.add(0, 0, 256, 256));
        SegmentTimes x = new SegmentTimes();
        int[][] edges = {{-1000, -1000000, 0, 0}, {-1000, 1000000, 0, 255}, {1000, -1000000, 255, 255},
            {1000, 1000000, 254, 255}};
        for (int i = 0; i < edges.length; i++) {
            Due.is("add of the edges " + i, x.add(edges[i][0], edges[i][1], edges[i][2], edges[i][3]), i);
            Due.segment(x, i, edges[i][0], edges[i][1], edges[i][2], edges[i][3], 0, 16384);
        }
    }

    /** "Adds a segment that lives from the present tick on, without an end": t2 is 16384, whatever the tick. */
    private static void addLivesFromThePresentTickOn() {
        for (int tick : new int[] {0, 1, 1000, LAST}) {
            SegmentTimes x = Edge.atTick(tick);
            Due.is("add at " + tick, x.add(0, 5, 0, 255), 0);
            Due.segment(x, 0, 0, 5, 0, 255, tick, 16384);
            Due.is("at its first tick", x.minimum(0, tick), 5);
            Due.is("at the last tick", x.minimum(255, LAST), 5);
            Due.is("at 16384", x.minimum(0, 16384), Long.MAX_VALUE);
            if (tick > 0) {
                Due.is("before its first tick", x.minimum(0, tick - 1), Long.MAX_VALUE);
            }
        }
    }

    /** "if there are 40 segments" comes behind "if an argument is out of range". */
    private static void addWhenFull() {
        Edge.answers("the segment 39", () -> Edge.withSegments(39), 39, x -> x.add(0, 0, 0, 0));
        Edge.refused("a segment 40", () -> Edge.withSegments(40), Due.STATE, x -> x.add(0, 0, 0, 0));
        Edge.refused("a segment 40 of a full store", Edge::full, Due.STATE, x -> x.add(0, 0, 0, 0));
        int[][] wrong = {{1001, 0, 0, 0}, {-1001, 0, 0, 0}, {0, 1000001, 0, 0}, {0, -1000001, 0, 0}, {0, 0, -1, 0},
            {0, 0, 1, 0}, {0, 0, 0, 256}};
        for (int[] w : wrong) {
            Edge.refused("a wrong segment 40 of a full store", Edge::full, Due.ARGUMENT,
                    x -> x.add(w[0], w[1], w[2], w[3]));
        }
        SegmentTimes x = Edge.withSegments(39);
        x.mark();
        Due.is("the last one", x.add(0, 0, 0, 0), 39);
        x.undo();
        Due.is("the last one again after undo()", x.add(1, 1, 1, 1), 39);
        Due.refused("one more", x, Due.STATE, () -> x.add(0, 0, 0, 0));
        x.rollBack();
        Due.is("the last one again after rollBack()", x.add(2, 2, 2, 2), 39);
        Due.refused("one more", x, Due.STATE, () -> x.add(0, 0, 0, 0));
    }

    /** "There are at most 40 segments ...; they keep their numbers, also when their life is over." */
    private static void endedSegmentsKeepTheirNumbers() {
        SegmentTimes x = Edge.withSegments(40);
        x.pass(1);
        for (int i = 0; i < 40; i++) {
            Due.is("end(" + i + ")", x.end(i), 1);
        }
        Due.is("segments() when all have ended", x.segments(), 40);
        Due.refused("add when all have ended", x, Due.STATE, () -> x.add(0, 0, 0, 0));
        Due.refused("addThrough when all have ended", x, Due.STATE, () -> x.addThrough(0, 0, 0, 0, 0, 0));
        for (int i = 0; i < 40; i++) {
            Due.segment(x, i, 0, 0, 0, 255, 0, 1);
        }
    }

    /** "x1: position of the first point, 0 to 255", "x2: position of the second point, x1 to 255" */
    private static void addThroughPositions() {
        for (int x2 : new int[] {0, 100, 255}) {
            Edge.range("addThrough, x1 up to " + x2, Edge::rich, 0, x2, Due.ARGUMENT,
                    (x, v) -> x.addThrough(v, 3, x2, 3, 0, 9));
        }
        for (int x1 : new int[] {0, 100, 255}) {
            Edge.range("addThrough, x2 from " + x1, Edge::rich, x1, 255, Due.ARGUMENT,
                    (x, v) -> x.addThrough(x1, 3, v, 3, 0, 9));
        }
        Edge.refused("addThrough at -1", Edge::rich, Due.ARGUMENT, x -> x.addThrough(-1, 0, -1, 0, 0, 9));
        Edge.refused("addThrough at 256", Edge::rich, Due.ARGUMENT, x -> x.addThrough(256, 0, 256, 0, 0, 9));
        SegmentTimes x = new SegmentTimes();
        Due.is("a point at 0", x.addThrough(0, 8, 0, 8, 0, 9), 0);
        Due.segment(x, 0, 0, 8, 0, 0, 0, 9);
        Due.is("a point at 255", x.addThrough(255, -8, 255, -8, 0, 9), 1);
        Due.segment(x, 1, 0, -8, 255, 255, 0, 9);
        Due.is("all positions", x.addThrough(0, 4, 255, 259, 0, 9), 2);
        Due.segment(x, 2, 1, 4, 0, 255, 0, 9);
        Due.is("two neighbours", x.addThrough(254, 1, 255, 0, 0, 9), 3);
        Due.segment(x, 3, -1, 255, 254, 255, 0, 9);
    }

    /** "-1000000 to 1000000", "y1 if x2 equals x1 (then the slope is 0)" */
    private static void addThroughValues() {
        Edge.range("addThrough, both values of a point", Edge::rich, -1000000, 1000000, Due.ARGUMENT,
                (x, v) -> x.addThrough(9, v, 9, v, 0, 9));
        Edge.range("addThrough, both values of a level line", Edge::rich, -1000000, 1000000, Due.ARGUMENT,
                (x, v) -> x.addThrough(9, v, 10, v, 0, 9));
        // slope and offset would be in range: it is the values that are not
        int[][] wrong = {{1, 1000000, 2, 1000001}, {1, -1000000, 2, -1000001}, {10, 1000001, 11, 1000002},
            {10, -1000001, 11, -1000002}};
        for (int[] w : wrong) {
            Edge.refused("addThrough with the values " + w[1] + ", " + w[3], Edge::rich, Due.ARGUMENT,
                    x -> x.addThrough(w[0], w[1], w[2], w[3], 0, 9));
        }
        Edge.taken("up to the greatest value", Edge::rich, x -> x.addThrough(1, 999999, 2, 1000000, 0, 9));
        Edge.taken("down to the least value", Edge::rich, x -> x.addThrough(1, -999999, 2, -1000000, 0, 9));
        Edge.range("addThrough, y2 of a single point", Edge::rich, 5, 5, Due.ARGUMENT,
                (x, v) -> x.addThrough(7, 5, 7, v, 0, 9));
        Edge.range("addThrough, y1 of a single point", Edge::rich, -5, -5, Due.ARGUMENT,
                (x, v) -> x.addThrough(7, v, 7, -5, 0, 9));
        int[][] wide = {{Edge.LEAST, Edge.MOST}, {Edge.MOST, Edge.LEAST}, {Edge.LEAST, 0}, {0, Edge.LEAST}};
        for (int[] w : wide) {
            Edge.refused("addThrough from " + w[0] + " to " + w[1], Edge::rich, Due.ARGUMENT,
                    x -> x.addThrough(0, w[0], 1, w[1], 0, 9));
        }
    }

    /** "if its slope and offset are whole numbers in range" */
    private static void addThroughSlopeAndOffset() {
        Edge.range("addThrough, the slope", Edge::rich, -1000, 1000, Due.ARGUMENT,
                (x, v) -> x.addThrough(0, 0, 1, v, 0, 9));
        Edge.taken("the steepest over all", Edge::rich, x -> x.addThrough(0, 0, 255, 255000, 0, 9));
        Edge.taken("the steepest fall over all", Edge::rich, x -> x.addThrough(0, 0, 255, -255000, 0, 9));
        Edge.refused("a little steeper over all", Edge::rich, Due.ARGUMENT,
                x -> x.addThrough(0, 0, 255, 255001, 0, 9));
        Edge.refused("too steep over all", Edge::rich, Due.ARGUMENT, x -> x.addThrough(0, 0, 255, 255255, 0, 9));
        for (int width : new int[] {2, 3, 255}) {
            for (int climb : new int[] {1, width - 1, width + 1, -1, 1 - width, -1 - width}) {
                Edge.refused("a slope of " + climb + " / " + width, Edge::rich, Due.ARGUMENT,
                        x -> x.addThrough(0, 0, width, climb, 0, 9));
            }
            Edge.taken("a slope of 1", Edge::rich, x -> x.addThrough(0, 0, width, width, 0, 9));
            Edge.taken("a slope of -1", Edge::rich, x -> x.addThrough(0, 0, width, -width, 0, 9));
        }
        // the line through (100, y) and (101, y - 1000) has the offset y + 100000
        Edge.taken("the greatest offset", Edge::rich, x -> x.addThrough(100, 900000, 101, 899000, 0, 9));
        Edge.refused("one more", Edge::rich, Due.ARGUMENT, x -> x.addThrough(100, 900001, 101, 899001, 0, 9));
        Edge.taken("the least offset", Edge::rich, x -> x.addThrough(100, -900000, 101, -899000, 0, 9));
        Edge.refused("one less", Edge::rich, Due.ARGUMENT, x -> x.addThrough(100, -900001, 101, -899001, 0, 9));
        SegmentTimes x = new SegmentTimes();
        x.addThrough(100, 900000, 101, 899000, 0, 9);
        Due.segment(x, 0, -1000, 1000000, 100, 101, 0, 9);
        x.addThrough(100, -900000, 101, -899000, 0, 9);
        Due.segment(x, 1, 1000, -1000000, 100, 101, 0, 9);
    }

    /** "t1: 0 to t2", "t2: t1 to 16384", "it lives from a tick on until before another one, past or future" */
    private static void addThroughLives() {
        for (int t2 : new int[] {0, 100, 16384}) {
            Edge.range("addThrough, t1 up to " + t2, Edge::rich, 0, t2, Due.ARGUMENT,
                    (x, v) -> x.addThrough(0, 0, 0, 0, v, t2));
        }
        for (int t1 : new int[] {0, 100, 16384}) {
            Edge.range("addThrough, t2 from " + t1, Edge::rich, t1, 16384, Due.ARGUMENT,
                    (x, v) -> x.addThrough(0, 0, 0, 0, t1, v));
        }
        Edge.refused("a life at -1", Edge::rich, Due.ARGUMENT, x -> x.addThrough(0, 0, 0, 0, -1, -1));
        Edge.refused("a life at 16385", Edge::rich, Due.ARGUMENT, x -> x.addThrough(0, 0, 0, 0, 16385, 16385));
        int[][] lives = {{0, 0}, {0, 1}, {5, 9}, {10, 10}, {9, 11}, {11, 20}, {0, 16384}, {16383, 16384},
            {16384, 16384}};
        SegmentTimes x = Edge.atTick(10);
        for (int i = 0; i < lives.length; i++) {
            int t1 = lives[i][0];
            int t2 = lives[i][1];
            Due.is("a life from " + t1, x.addThrough(i, i, i, i, t1, t2), i);
            Due.segment(x, i, 0, i, i, i, t1, t2);
            Due.is("at its t1", x.minimum(i, t1), t1 < t2 ? i : Long.MAX_VALUE);
            Due.is("at its t2", x.minimum(i, t2), Long.MAX_VALUE);
            Due.is("before its t2", x.minimum(i, Math.max(0, t2 - 1)), t1 < t2 ? i : Long.MAX_VALUE);
            Due.is("before its t1", x.minimum(i, Math.max(0, t1 - 1)), t1 == 0 && t2 > 0 ? i : Long.MAX_VALUE);
        }
    }

    private static void addThroughWhenFull() {
        Edge.answers("the segment 39", () -> Edge.withSegments(39), 39, x -> x.addThrough(0, 0, 0, 0, 0, 0));
        Edge.refused("a segment 40", Edge::full, Due.STATE, x -> x.addThrough(0, 0, 0, 0, 0, 0));
        int[][] wrong = {{-1, 0, 0, 0, 0, 0}, {0, 0, 256, 0, 0, 0}, {0, 1000001, 0, 1000001, 0, 0},
            {1, 1000000, 2, 1000001, 0, 0}, {0, 0, 0, 1, 0, 0}, {0, 0, 2, 1, 0, 0}, {0, 0, 1, 1001, 0, 0},
            {1, 1000000, 2, 999999, 0, 0}, {0, 0, 0, 0, -1, 0}, {0, 0, 0, 0, 0, 16385}, {0, 0, 0, 0, 2, 1}};
        for (int[] w : wrong) {
            Edge.refused("a wrong segment 40", Edge::full, Due.ARGUMENT,
                    x -> x.addThrough(w[0], w[1], w[2], w[3], w[4], w[5]));
        }
    }

    /** "segment: number of a segment": 0 to the last one that was given */
    private static void endRanges() {
        Edge.range("end", () -> Edge.withSegments(1), 0, 0, Due.INDEX, (x, v) -> x.end(v));
        Edge.range("end", () -> Edge.withSegments(7), 0, 6, Due.INDEX, (x, v) -> x.end(v));
        Edge.range("end", () -> Edge.withSegments(40), 0, 39, Due.INDEX, (x, v) -> x.end(v));
        Edge.range("end of a full store", Edge::full, 0, 39, Due.INDEX, (x, v) -> x.end(v));
    }

    private static SegmentTimes withLife(int t1, int t2, int now) {
        SegmentTimes x = Edge.atTick(now);
        x.addThrough(2, 11, 4, 15, t1, t2);
        x.mark();
        return x;
    }

    /** "if it is not live at the present tick": live is from t1 on until before t2 */
    private static void endWhereNotLive() {
        Edge.refused("end before t1", () -> withLife(6, 9, 5), Due.STATE, x -> x.end(0));
        Edge.answers("end at t1", () -> withLife(6, 9, 6), 0, x -> x.end(0));
        Edge.answers("end before t2", () -> withLife(6, 9, 8), 2, x -> x.end(0));
        Edge.refused("end at t2", () -> withLife(6, 9, 9), Due.STATE, x -> x.end(0));
        Edge.refused("end after t2", () -> withLife(6, 9, 10), Due.STATE, x -> x.end(0));
        Edge.refused("end of a life without ticks", () -> withLife(6, 6, 6), Due.STATE, x -> x.end(0));
        Edge.refused("end of a life at 16384", () -> withLife(16384, 16384, LAST), Due.STATE, x -> x.end(0));
        Edge.answers("end of a life of one tick", () -> withLife(LAST, 16384, LAST), 0, x -> x.end(0));
        Edge.refused("end twice", Edge::rich, Due.STATE, x -> x.end(1));
    }

    private static void endAnswersTicksLived() {
        SegmentTimes x = new SegmentTimes();
        x.add(0, 0, 0, 0);
        x.add(0, 0, 0, 0);
        Due.is("end at its first tick", x.end(1), 0);
        Due.segment(x, 1, 0, 0, 0, 0, 0, 0);
        Edge.passTo(x, LAST);
        Due.is("end at the last tick", x.end(0), LAST);
        Due.segment(x, 0, 0, 0, 0, 0, 0, LAST);
        Due.refused("end again at the last tick", x, Due.STATE, () -> x.end(0));
    }

    /** "segment: number of a segment", "difference: -1000000 to 1000000", "or the new offset, is out of range" */
    private static void liftRanges() {
        Edge.range("lift, segment", () -> Edge.withSegments(7), 0, 6, Due.INDEX, (x, v) -> x.lift(v, 0));
        Edge.range("lift, segment 0 alone", () -> Edge.withSegments(1), 0, 0, Due.INDEX, (x, v) -> x.lift(v, 0));
        Edge.range("lift, segment up to 38", () -> Edge.withSegments(39), 0, 38, Due.INDEX, (x, v) -> x.lift(v, 0));
        Edge.range("lift, difference at offset 0", () -> withOffset(0), -1000000, 1000000, Due.ARGUMENT,
                (x, v) -> x.lift(0, v));
        Edge.range("lift, difference at the least offset", () -> withOffset(-1000000), 0, 1000000, Due.ARGUMENT,
                (x, v) -> x.lift(0, v));
        Edge.range("lift, difference at the greatest offset", () -> withOffset(1000000), -1000000, 0, Due.ARGUMENT,
                (x, v) -> x.lift(0, v));
        Edge.range("lift, new offset", () -> withOffset(300000), -1000000, 700000, Due.ARGUMENT,
                (x, v) -> x.lift(0, v));
        Edge.range("lift, new offset", () -> withOffset(-300000), -700000, 1000000, Due.ARGUMENT,
                (x, v) -> x.lift(0, v));
        // the sums would wrap around to offsets in range
        Edge.refused("lift, a wrap-around", () -> withOffset(-1000000), Due.ARGUMENT, x -> x.lift(0, Edge.LEAST));
        Edge.refused("lift, a wrap-around", () -> withOffset(1000000), Due.ARGUMENT, x -> x.lift(0, Edge.MOST));
        Edge.refused("no such segment first", Edge::full, Due.INDEX, x -> x.lift(40, 1000001));
        Edge.refused("no such segment first", Edge::full, Due.INDEX, x -> x.lift(-1, -1000001));
    }

    private static SegmentTimes withOffset(int offset) {
        SegmentTimes x = new SegmentTimes();
        x.add(-3, offset, 10, 20);
        x.pass(2);
        x.mark();
        return x;
    }

    private static void liftWhereNotLive() {
        Edge.refused("lift before t1", () -> withLife(6, 9, 5), Due.STATE, x -> x.lift(0, 1));
        Edge.answers("lift at t1", () -> withLife(6, 9, 6), 1, x -> x.lift(0, 1));
        Edge.answers("lift before t2", () -> withLife(6, 9, 8), 1, x -> x.lift(0, 1));
        Edge.refused("lift at t2", () -> withLife(6, 9, 9), Due.STATE, x -> x.lift(0, 1));
        Edge.refused("lift of a life without ticks", () -> withLife(6, 6, 6), Due.STATE, x -> x.lift(0, 1));
        Edge.refused("lift of one that was lifted", Edge::rich, Due.STATE, x -> x.lift(0, 1));
        Edge.refused("a wrong difference first", () -> withLife(6, 9, 9), Due.ARGUMENT, x -> x.lift(0, 1000001));
        Edge.refused("a wrong new offset first", () -> withLife(6, 9, 9), Due.ARGUMENT, x -> x.lift(0, 999994));
        Edge.refused("no such segment first", () -> withLife(6, 9, 9), Due.INDEX, x -> x.lift(1, 0));
    }

    private static void liftWhenFull() {
        Edge.answers("lift to the segment 39", () -> Edge.withSegments(39), 39, x -> x.lift(38, 5));
        Edge.refused("lift to a segment 40", () -> Edge.withSegments(40), Due.STATE, x -> x.lift(39, 5));
        Edge.refused("lift in a full store", Edge::full, Due.STATE, x -> x.lift(0, 0));
        Edge.refused("a wrong difference in a full store", Edge::full, Due.ARGUMENT, x -> x.lift(0, 1000001));
        Edge.refused("a wrong new offset in a full store", Edge::full, Due.ARGUMENT, x -> x.lift(39, 999955));
    }

    /** "the same slope and range, an offset that is greater by a difference, and the t2 that the old one had" */
    private static void liftKeepsTheRest() {
        SegmentTimes x = withLife(6, 9, 8);
        Due.is("lift by 0 in the last tick", x.lift(0, 0), 1);
        Due.segment(x, 0, 2, 7, 2, 4, 6, 8);
        Due.segment(x, 1, 2, 7, 2, 4, 8, 9);
        Due.is("lift in the first tick", x.lift(1, -1000000), 2);
        Due.segment(x, 1, 2, 7, 2, 4, 8, 8);
        Due.segment(x, 2, 2, -999993, 2, 4, 8, 9);
        SegmentTimes y = Edge.atTick(LAST);
        y.add(-1000, 999999, 0, 255);
        Due.is("lift at the last tick", y.lift(0, 1), 1);
        Due.segment(y, 0, -1000, 999999, 0, 255, LAST, LAST);
        Due.segment(y, 1, -1000, 1000000, 0, 255, LAST, 16384);
    }

    /** "ticks: 0 to 1000" */
    private static void passRanges() {
        Edge.range("pass", Edge::rich, 0, 1000, Due.ARGUMENT, (x, v) -> x.pass(v));
        Edge.range("pass of a full store", Edge::full, 0, 1000, Due.ARGUMENT, (x, v) -> x.pass(v));
    }

    /** "if the present tick would be above 16383" comes behind "if ticks is out of range". */
    private static void passToTheLastTick() {
        Edge.answers("pass to 16383", () -> Edge.atTick(15383), LAST, x -> x.pass(1000));
        Edge.refused("pass to 16384", () -> Edge.atTick(15384), Due.STATE, x -> x.pass(1000));
        Edge.answers("pass(1) to 16383", () -> Edge.atTick(16382), LAST, x -> x.pass(1));
        Edge.refused("pass(2) to 16384", () -> Edge.atTick(16382), Due.STATE, x -> x.pass(2));
        Edge.answers("pass(0) at 16383", () -> Edge.atTick(LAST), LAST, x -> x.pass(0));
        Edge.refused("pass(1) at 16383", () -> Edge.atTick(LAST), Due.STATE, x -> x.pass(1));
        Edge.refused("pass(1000) at 16383", () -> Edge.atTick(LAST), Due.STATE, x -> x.pass(1000));
        for (int wrong : new int[] {-1, 1001, Edge.LEAST, Edge.MOST}) {
            Edge.refused("pass at 16383 with " + wrong, () -> Edge.atTick(LAST), Due.ARGUMENT, x -> x.pass(wrong));
        }
    }

    /** "There is a present tick, initially 0."; segments() "Returns 0 to 40." */
    private static void nowAndSegments() {
        Edge.leaves("now() at 16383", () -> Edge.atTick(LAST), LAST, x -> x.now());
        Edge.leaves("now()", Edge::rich, 5, x -> x.now());
        Edge.leaves("segments()", Edge::rich, 3, x -> x.segments());
        Edge.leaves("segments() of a full store", Edge::full, 40, x -> x.segments());
        Edge.leaves("segments() of an empty store", SegmentTimes::new, 0, x -> x.segments());
        SegmentTimes x = new SegmentTimes();
        for (int i = 1; i <= 40; i++) {
            x.add(0, 0, 0, 0);
            Due.is("segments() after add " + i, x.segments(), i);
        }
        x.mark();
        x.pass(9);
        x.rollBack();
        Due.is("now() after rollBack()", x.now(), 0);
        Due.is("segments() after rollBack()", x.segments(), 40);
        x.undo();
        Due.is("now() after undo()", x.now(), 9);
    }

    /** "segment: number of a segment", "what: 0 its slope ... 5 its t2" */
    private static void segmentRanges() {
        for (int what = 0; what < 6; what++) {
            int w = what;
            Edge.range("segment, number", Edge::rich, 0, 2, Due.INDEX, (x, v) -> x.segment(v, w));
            Edge.range("segment, number in a full store", Edge::full, 0, 39, Due.INDEX, (x, v) -> x.segment(v, w));
        }
        for (int segment = 0; segment < 3; segment++) {
            int s = segment;
            Edge.range("segment, what", Edge::rich, 0, 5, Due.ARGUMENT, (x, v) -> x.segment(s, v));
        }
        for (int what : new int[] {-1, 6, Edge.LEAST, Edge.MOST}) {
            Edge.refused("no such segment first", Edge::rich, Due.INDEX, x -> x.segment(3, what));
            Edge.refused("no such segment first", Edge::rich, Due.INDEX, x -> x.segment(-1, what));
        }
    }

    /** "Undoable": each saves one state, also a call that changes nothing; the asking ones save none. */
    private static void undoable() {
        StateEdges.undoable("add", x -> x.add(0, 0, 0, 0));
        StateEdges.undoable("addThrough", x -> x.addThrough(0, 0, 0, 0, 16384, 16384));
        StateEdges.undoable("end", x -> x.end(0));
        StateEdges.undoable("lift", x -> x.lift(0, 0));
        StateEdges.undoable("pass", x -> x.pass(1));
        StateEdges.undoable("pass(0)", x -> x.pass(0));
        StateEdges.savesNothing("now()", x -> x.now());
        StateEdges.savesNothing("segments()", x -> x.segments());
        StateEdges.savesNothing("segment(0, 0)", x -> x.segment(0, 0));
    }
}
