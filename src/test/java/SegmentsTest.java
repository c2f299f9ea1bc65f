/** Promises 1 to 9: a new object, and the segments with the present tick. */
public final class SegmentsTest {
    public static void main(String[] args) {
        newObject();
        add();
        addRefuses();
        addThrough();
        addThroughRefuses();
        end();
        lift();
        liftRefuses();
        pass();
        nowAndSegments();
        segment();
        takenBack();
        Due.finish();
    }

    /** A number that was given and taken back by undo() is no segment's number any more. */
    private static void takenBack() {
        SegmentTimes x = new SegmentTimes();
        x.add(0, 0, 0, 255);
        x.add(0, 0, 0, 255);
        x.undo();
        Due.refused("end(1)", x, Due.INDEX, () -> x.end(1));
        Due.refused("lift(1, 0)", x, Due.INDEX, () -> x.lift(1, 0));
        Due.refused("segment(1, 0)", x, Due.INDEX, () -> x.segment(1, 0));
        Due.refused("overtakes(0, 1)", x, Due.INDEX, () -> x.overtakes(0, 1));
        Due.refused("overtakes(1, 0)", x, Due.INDEX, () -> x.overtakes(1, 0));
        Due.refused("visible(1, 0)", x, Due.INDEX, () -> x.visible(1, 0));
        Due.refused("leads(1, 0)", x, Due.INDEX, () -> x.leads(1, 0));
        Due.refused("intervals(1)", x, Due.INDEX, () -> x.intervals(1));
        Due.refused("interval(1, 0, true)", x, Due.INDEX, () -> x.interval(1, 0, true));
        Due.is("holders(0, 16384)", x.holders(0, 16384), 1);
        Due.is("ranked(0, 0, 1)", x.ranked(0, 0, 1), -1);
        Due.is("hidden(0)", x.hidden(0), 0);
        x.add(0, -5, 3, 9);
        x.undo();
        Due.is("ranked(5, 0, 0)", x.ranked(5, 0, 0), 0);
        Due.is("pieces(0)", x.pieces(0), 1);
        Due.is("below(5, 0, 1)", x.below(5, 0, 1), 1);
        Due.is("changes(5, 0, 16384)", x.changes(5, 0, 16384), 1);
    }

    private static void newObject() {
        SegmentTimes x = new SegmentTimes();
        Due.is("now() of a new object", x.now(), 0);
        Due.is("segments() of a new object", x.segments(), 0);
        Due.is("forget() of a new object", x.forget(), 0);
        SegmentTimes y = new SegmentTimes();
        Due.is("mark() of a new object", y.mark(), 1);
        SegmentTimes z = new SegmentTimes();
        Due.is("clearText() of a new object", z.clearText(), 0);
        Due.refused("undo() of a new object", z, Due.STATE, () -> z.undo());
        Due.refused("rollBack() of a new object", z, Due.STATE, () -> z.rollBack());
        y.add(1, 2, 3, 4);
        Due.is("segments() of another object", z.segments(), 0);
    }

    private static void add() {
        SegmentTimes x = new SegmentTimes();
        Due.is("the first add", x.add(-1000, 1000000, 0, 255), 0);
        Due.is("add with the other edges", x.add(1000, -1000000, 0, 0), 1);
        x.pass(7);
        Due.is("add later", x.add(3, -4, 255, 255), 2);
        Due.segment(x, 0, -1000, 1000000, 0, 255, 0, 16384);
        Due.segment(x, 1, 1000, -1000000, 0, 0, 0, 16384);
        Due.segment(x, 2, 3, -4, 255, 255, 7, 16384);
        Due.is("undo() of add", x.undo(), 3);
        Due.is("segments() after undo()", x.segments(), 2);
        for (int i = 2; i < 40; i++) {
            Due.is("add " + i, x.add(i, i, i, i), i);
        }
        Due.refused("add of a segment 40", x, Due.STATE, () -> x.add(0, 0, 0, 0));
        Due.refused("add of a wrong segment 40", x, Due.ARGUMENT, () -> x.add(1001, 0, 0, 0));
        Due.segment(x, 39, 39, 39, 39, 39, 7, 16384);
    }

    private static void addRefuses() {
        SegmentTimes x = new SegmentTimes();
        x.add(1, 1, 1, 1);
        int[][] wrong = {{1001, 0, 0, 0}, {-1001, 0, 0, 0}, {0, 1000001, 0, 0}, {0, -1000001, 0, 0}, {0, 0, -1, 0},
            {0, 0, 1, 0}, {0, 0, 0, 256}, {0, 0, 256, 256}, {0, 0, 0, -1}, {0, 0, -2, -1},
            {Integer.MIN_VALUE, 0, 0, 0}, {0, Integer.MIN_VALUE, 0, 0}, {0, 0, Integer.MIN_VALUE, 0},
            {0, 0, 0, Integer.MAX_VALUE}};
        for (int[] w : wrong) {
            Due.refused("add(" + w[0] + ", " + w[1] + ", " + w[2] + ", " + w[3] + ")", x, Due.ARGUMENT,
                    () -> x.add(w[0], w[1], w[2], w[3]));
        }
        Due.is("segments() after refused calls", x.segments(), 1);
    }

    private static void addThrough() {
        SegmentTimes x = new SegmentTimes();
        Due.is("through two points", x.addThrough(10, 50, 20, 20, 5, 9), 0);
        Due.segment(x, 0, -3, 80, 10, 20, 5, 9);
        Due.is("a single point", x.addThrough(7, -9, 7, -9, 0, 16384), 1);
        Due.segment(x, 1, 0, -9, 7, 7, 0, 16384);
        Due.is("a life without ticks at the end", x.addThrough(0, 1000000, 255, 1000000, 16384, 16384), 2);
        Due.segment(x, 2, 0, 1000000, 0, 255, 16384, 16384);
        Due.is("the steepest rise", x.addThrough(0, -1000000, 255, -745000, 0, 0), 3);
        Due.segment(x, 3, 1000, -1000000, 0, 255, 0, 0);
        Due.is("the steepest fall", x.addThrough(254, 746000, 255, 745000, 3, 4), 4);
        Due.segment(x, 4, -1000, 1000000, 254, 255, 3, 4);
        Due.is("undo() of addThrough", x.undo(), 3);
        Due.is("segments() after undo()", x.segments(), 4);
        x.pass(100);
        Due.is("a life in the past", x.addThrough(1, 1, 2, 2, 50, 60), 4);
        Due.segment(x, 4, 1, 0, 1, 2, 50, 60);
        Due.is("minimum in the past", x.minimum(2, 59), 2);
        for (int i = 5; i < 40; i++) {
            x.addThrough(0, 0, 0, 0, 0, 1);
        }
        Due.refused("addThrough of a segment 40", x, Due.STATE, () -> x.addThrough(0, 0, 0, 0, 0, 0));
        Due.refused("addThrough of a wrong segment 40", x, Due.ARGUMENT, () -> x.addThrough(0, 0, 2, 1, 0, 0));
    }

    private static void addThroughRefuses() {
        SegmentTimes x = new SegmentTimes();
        int[][] wrong = {{-1, 0, 0, 0, 0, 0}, {1, 0, 0, 0, 0, 0}, {0, 0, 256, 0, 0, 0}, {0, 1000001, 0, 1000001, 0, 0},
            {0, -1000001, 1, -1000000, 0, 0}, {0, 1000000, 1, 1000001, 0, 0}, {0, -1000000, 1, -1000001, 0, 0},
            {0, 0, 0, 0, -1, 0}, {0, 0, 0, 0, 1, 0}, {0, 0, 0, 0, 0, 16385}, {0, 0, 0, 0, 16385, 16385},
            {5, 1, 5, 2, 0, 0}, {0, 0, 2, 1, 0, 0}, {0, 0, 2, -1, 0, 0}, {0, 0, 1, 1001, 0, 0},
            {0, 0, 1, -1001, 0, 0}, {1, 1000000, 2, 999999, 0, 0}, {1, -1000000, 2, -999999, 0, 0},
            {0, Integer.MIN_VALUE, 1, Integer.MAX_VALUE, 0, 0}, {Integer.MIN_VALUE, 0, 0, 0, 0, 0},
            {0, 0, 0, 0, Integer.MIN_VALUE, Integer.MAX_VALUE}};
        for (int[] w : wrong) {
            Due.refused("addThrough(" + java.util.Arrays.toString(w) + ")", x, Due.ARGUMENT,
                    () -> x.addThrough(w[0], w[1], w[2], w[3], w[4], w[5]));
        }
    }

    private static void end() {
        SegmentTimes x = new SegmentTimes();
        x.add(1, 2, 3, 4);
        x.addThrough(0, 0, 0, 0, 5, 10);
        x.addThrough(0, 0, 0, 0, 20, 30);
        x.addThrough(0, 0, 0, 0, 5, 5);
        x.pass(5);
        Due.is("end(1) in its first tick", x.end(1), 0);
        Due.segment(x, 1, 0, 0, 0, 0, 5, 5);
        Due.is("undo() of end", x.undo(), 3);
        Due.segment(x, 1, 0, 0, 0, 0, 5, 10);
        x.pass(4);
        Due.is("end(1) in its last tick", x.end(1), 4);
        Due.segment(x, 1, 0, 0, 0, 0, 5, 9);
        Due.refused("end(1) again", x, Due.STATE, () -> x.end(1));
        Due.refused("end(2) before its life", x, Due.STATE, () -> x.end(2));
        Due.refused("end(3) without a life", x, Due.STATE, () -> x.end(3));
        Due.refused("end(-1)", x, Due.INDEX, () -> x.end(-1));
        Due.refused("end(4)", x, Due.INDEX, () -> x.end(4));
        Due.refused("end(greatest)", x, Due.INDEX, () -> x.end(Integer.MAX_VALUE));
        Due.is("end(0)", x.end(0), 9);
        Due.segment(x, 0, 1, 2, 3, 4, 0, 9);
        x.addThrough(0, 0, 0, 0, 0, 9);
        Due.refused("end(4) in its t2", x, Due.STATE, () -> x.end(4));
    }

    private static void lift() {
        SegmentTimes x = new SegmentTimes();
        x.addThrough(3, 10, 5, 14, 2, 50);
        x.pass(10);
        Due.is("lift(0, -6)", x.lift(0, -6), 1);
        Due.segment(x, 0, 2, 4, 3, 5, 2, 10);
        Due.segment(x, 1, 2, -2, 3, 5, 10, 50);
        Due.is("lift(1, 0) in its first tick", x.lift(1, 0), 2);
        Due.segment(x, 1, 2, -2, 3, 5, 10, 10);
        Due.segment(x, 2, 2, -2, 3, 5, 10, 50);
        Due.is("undo() of lift", x.undo(), 3);
        Due.segment(x, 1, 2, -2, 3, 5, 10, 50);
        Due.is("segments() after undo()", x.segments(), 2);
        Due.is("lift to the top", x.lift(1, 1000000), 2);
        Due.is("its offset", x.segment(2, 1), 999998);
        Due.is("lift by 2", x.lift(2, 2), 3);
        Due.is("its offset", x.segment(3, 1), 1000000);
        Due.is("lift down", x.lift(3, -1000000), 4);
        Due.is("lift down again", x.lift(4, -1000000), 5);
        Due.segment(x, 5, 2, -1000000, 3, 5, 10, 50);
    }

    private static void liftRefuses() {
        SegmentTimes x = new SegmentTimes();
        x.add(0, 1000000, 0, 0);
        x.add(0, -1000000, 0, 0);
        x.addThrough(0, 0, 0, 0, 1, 2);
        x.addThrough(0, 0, 0, 0, 0, 0);
        Due.refused("lift(4, 0)", x, Due.INDEX, () -> x.lift(4, 0));
        Due.refused("lift(-1, 1000001)", x, Due.INDEX, () -> x.lift(-1, 1000001));
        Due.refused("lift(0, 1)", x, Due.ARGUMENT, () -> x.lift(0, 1));
        Due.refused("lift(1, -1)", x, Due.ARGUMENT, () -> x.lift(1, -1));
        Due.refused("lift(0, -1000001)", x, Due.ARGUMENT, () -> x.lift(0, -1000001));
        Due.refused("lift(1, 1000001)", x, Due.ARGUMENT, () -> x.lift(1, 1000001));
        Due.refused("lift(1, greatest)", x, Due.ARGUMENT, () -> x.lift(1, Integer.MAX_VALUE));
        Due.refused("lift(0, least)", x, Due.ARGUMENT, () -> x.lift(0, Integer.MIN_VALUE));
        Due.refused("lift(2, 1000001) before its life", x, Due.ARGUMENT, () -> x.lift(2, 1000001));
        Due.refused("lift(2, 0) before its life", x, Due.STATE, () -> x.lift(2, 0));
        Due.refused("lift(3, 0) without a life", x, Due.STATE, () -> x.lift(3, 0));
        for (int i = 4; i < 40; i++) {
            x.add(0, 0, 0, 0);
        }
        Due.refused("lift(0, 1) with 40 segments", x, Due.ARGUMENT, () -> x.lift(0, 1));
        Due.refused("lift(0, 0) with 40 segments", x, Due.STATE, () -> x.lift(0, 0));
    }

    private static void pass() {
        SegmentTimes x = new SegmentTimes();
        Due.is("pass(0)", x.pass(0), 0);
        Due.is("undo() of pass(0)", x.undo(), 0);
        Due.is("pass(1000)", x.pass(1000), 1000);
        Due.is("undo() of pass", x.undo(), 0);
        Due.is("now() after undo()", x.now(), 0);
        Due.refused("pass(-1)", x, Due.ARGUMENT, () -> x.pass(-1));
        Due.refused("pass(1001)", x, Due.ARGUMENT, () -> x.pass(1001));
        Due.refused("pass(greatest)", x, Due.ARGUMENT, () -> x.pass(Integer.MAX_VALUE));
        for (int i = 1; i <= 16; i++) {
            Due.is("pass(1000)", x.pass(1000), 1000 * i);
        }
        Due.refused("pass(1001) near the end", x, Due.ARGUMENT, () -> x.pass(1001));
        Due.refused("pass(384) to 16384", x, Due.STATE, () -> x.pass(384));
        Due.is("pass(383)", x.pass(383), 16383);
        Due.is("pass(0) at the end", x.pass(0), 16383);
        Due.refused("pass(1) at the end", x, Due.STATE, () -> x.pass(1));
        x.add(0, 0, 0, 0);
        Due.segment(x, 0, 0, 0, 0, 0, 16383, 16384);
        Due.is("end(0) at the last tick", x.end(0), 0);
    }

    private static void nowAndSegments() {
        SegmentTimes x = new SegmentTimes();
        x.pass(12);
        x.pass(30);
        Due.is("now()", x.now(), 42);
        x.add(0, 0, 0, 0);
        x.addThrough(0, 0, 0, 0, 0, 0);
        x.lift(0, 5);
        x.end(2);
        Due.is("segments() counts ended ones too", x.segments(), 3);
    }

    private static void segment() {
        SegmentTimes x = new SegmentTimes();
        Due.refused("segment(0, 0) without one", x, Due.INDEX, () -> x.segment(0, 0));
        x.add(11, 22, 33, 44);
        Due.segment(x, 0, 11, 22, 33, 44, 0, 16384);
        Due.refused("segment(0, -1)", x, Due.ARGUMENT, () -> x.segment(0, -1));
        Due.refused("segment(0, 6)", x, Due.ARGUMENT, () -> x.segment(0, 6));
        Due.refused("segment(1, 6)", x, Due.INDEX, () -> x.segment(1, 6));
        Due.refused("segment(-1, 0)", x, Due.INDEX, () -> x.segment(-1, 0));
    }
}
