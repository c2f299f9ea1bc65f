/** Promises 31 and 32: marks to which the store can be rolled back. */
public final class MarksTest {
    public static void main(String[] args) {
        markAndRollBack();
        stack();
        queriesStay();
        undoable();
        markComesBack();
        Due.finish();
    }

    private static void markAndRollBack() {
        SegmentTimes x = new SegmentTimes();
        Due.refused("rollBack() without a mark", x, Due.STATE, () -> x.rollBack());
        x.add(1, 2, 3, 4);
        x.pass(10);
        Due.is("mark()", x.mark(), 1);
        x.pass(10);
        x.end(0);
        x.add(5, 6, 7, 8);
        Due.is("rollBack()", x.rollBack(), 0);
        Due.is("now()", x.now(), 10);
        Due.is("segments()", x.segments(), 1);
        Due.segment(x, 0, 1, 2, 3, 4, 0, 16384);
        Due.refused("segment(1, 0)", x, Due.INDEX, () -> x.segment(1, 0));
        Due.refused("rollBack() again", x, Due.STATE, () -> x.rollBack());
        Due.is("add gives the number again", x.add(9, 9, 9, 9), 1);
        Due.segment(x, 1, 9, 9, 9, 9, 10, 16384);
    }

    private static void stack() {
        SegmentTimes x = new SegmentTimes();
        for (int i = 1; i <= 5; i++) {
            x.add(i, 0, 0, 0);
            x.pass(i);
            Due.is("mark " + i, x.mark(), i);
        }
        Due.refused("a sixth mark", x, Due.STATE, () -> x.mark());
        x.lift(0, 1);
        int[] ticks = {1, 3, 6, 10, 15};
        for (int i = 5; i >= 2; i--) {
            Due.is("rollBack to " + i, x.rollBack(), i - 1);
            Due.is("its tick", x.now(), ticks[i - 1]);
            Due.is("its segments", x.segments(), i);
            x.add(-i, 0, 0, 0);
            x.end(0);
        }
        Due.is("a mark in between", x.mark(), 2);
        x.pass(500);
        Due.is("rollBack to it", x.rollBack(), 1);
        Due.segment(x, 0, 1, 0, 0, 0, 0, 3);
        Due.segment(x, 2, -2, 0, 0, 0, 3, 16384);
        Due.is("rollBack to the first", x.rollBack(), 0);
        Due.segment(x, 0, 1, 0, 0, 0, 0, 16384);
        Due.is("its segments", x.segments(), 1);
    }

    private static void queriesStay() {
        SegmentTimes x = new SegmentTimes();
        x.collect(0, 0);
        x.mark();
        x.add(0, 33, 0, 0);
        x.collect(0, 5);
        x.solve();
        x.rollBack();
        Due.is("an answer stays", x.answer(0, 0), 33);
        Due.is("its segment stays", x.answer(1, 1), 0);
        Due.is("segments()", x.segments(), 0);
        Due.is("forget()", x.forget(), 2);
    }

    private static void undoable() {
        SegmentTimes x = new SegmentTimes();
        x.add(1, 1, 1, 1);
        x.mark();
        Due.is("undo() of mark", x.undo(), 1);
        Due.refused("rollBack() after undo()", x, Due.STATE, () -> x.rollBack());
        x.mark();
        x.pass(5);
        x.rollBack();
        Due.is("undo() of rollBack", x.undo(), 3);
        Due.is("now() after undo()", x.now(), 5);
        x.mark();
        x.add(2, 2, 2, 2);
        x.rollBack();
        x.pass(7);
        x.rollBack();
        Due.is("now() after two", x.now(), 0);
        Due.is("undo() of the last", x.undo(), 3);
        Due.is("now() then", x.now(), 12);
        Due.is("undo() of pass", x.undo(), 2);
        Due.is("undo() of rollBack", x.undo(), 1);
        Due.is("segments() then", x.segments(), 2);
        Due.is("both marks are back", x.rollBack(), 1);
        Due.is("the tick of the second", x.now(), 5);
        Due.is("the other one", x.rollBack(), 0);
        Due.is("the tick of the first", x.now(), 0);
    }

    /** A mark that was rolled back and set anew elsewhere comes back by undo() as it was. */
    private static void markComesBack() {
        SegmentTimes x = new SegmentTimes();
        x.mark();
        x.pass(1);
        x.mark();
        x.pass(10);
        x.rollBack();
        x.add(1, 1, 1, 1);
        x.mark();
        x.undo();
        x.undo();
        Due.is("undo() of rollBack", x.undo(), 1);
        Due.is("now() then", x.now(), 11);
        Due.is("the second mark is back", x.rollBack(), 1);
        Due.is("its tick", x.now(), 1);
        Due.is("its segments", x.segments(), 0);
        x.rollBack();
        x.pass(500);
        x.mark();
        x.undo();
        x.undo();
        Due.is("undo() of the other rollBack", x.undo(), 1);
        Due.is("the first mark is back", x.rollBack(), 0);
        Due.is("its tick", x.now(), 0);
    }
}
