/** Promises 31 and 32, and their words in the Description: each sentence that names an edge. */
public final class MarksEdgesTest {
    public static void main(String[] args) {
        markFromNoneToAll();
        markWhenFull();
        rollBackWithoutMarks();
        rollBackOfAllMarks();
        marksAreGoneOnceRolledBack();
        marksOfTheEmptyAndTheFullStore();
        marksRememberNoQueriesAndNoText();
        undoable();
        Due.finish();
    }

    /** "Returns the number of marks." */
    private static void markFromNoneToAll() {
        for (int count = 0; count < 5; count++) {
            int marks = count;
            Edge.answers("mark " + count, () -> Edge.withMarks(marks), count + 1, x -> x.mark());
        }
        SegmentTimes x = new SegmentTimes();
        for (int i = 1; i <= 5; i++) {
            Due.is("mark of an empty store", x.mark(), i);
        }
    }

    /** "if there are 5 marks" */
    private static void markWhenFull() {
        Edge.refused("a sixth mark", () -> Edge.withMarks(5), Due.STATE, x -> x.mark());
        Edge.refused("a sixth mark of a full store", Edge::full, Due.STATE, x -> x.mark());
        SegmentTimes x = Edge.withMarks(5);
        Due.is("rollBack()", x.rollBack(), 4);
        Due.is("the fifth again", x.mark(), 5);
        Due.refused("a sixth after it", x, Due.STATE, () -> x.mark());
        x.undo();
        Due.is("the fifth again after undo()", x.mark(), 5);
        Due.refused("a sixth after undo()", x, Due.STATE, () -> x.mark());
    }

    /** "if there is no mark" */
    private static void rollBackWithoutMarks() {
        Edge.refused("rollBack() of a new object", SegmentTimes::new, Due.STATE, x -> x.rollBack());
        Edge.refused("rollBack() without a mark", () -> Edge.withQueries(3), Due.STATE, x -> x.rollBack());
        Edge.refused("rollBack() in a store of 40 segments", () -> Edge.withSegments(40), Due.STATE,
                x -> x.rollBack());
        SegmentTimes x = new SegmentTimes();
        x.mark();
        x.undo();
        Due.refused("rollBack() after undo() of the mark", x, Due.STATE, () -> x.rollBack());
    }

    /** "Returns the number of marks that are left." */
    private static void rollBackOfAllMarks() {
        SegmentTimes x = new SegmentTimes();
        for (int i = 0; i < 5; i++) {
            x.add(i, 10 * i, 0, i);
            x.pass(i + 1);
            x.mark();
        }
        x.end(4);
        x.pass(1000);
        int[] ticks = {1, 3, 6, 10, 15};
        for (int i = 4; i >= 0; i--) {
            Due.is("rollBack()", x.rollBack(), i);
            Due.is("its tick", x.now(), ticks[i]);
            Due.is("its segments", x.segments(), i + 1);
            Due.segment(x, i, i, 10 * i, 0, i, ticks[i] - i - 1, 16384);
            Due.refused("the segment after them", x, Due.INDEX, () -> x.segment(x.segments(), 0));
        }
        Due.refused("one more rollBack()", x, Due.STATE, () -> x.rollBack());
    }

    /** "restores what the latest mark remembers, and removes it" */
    private static void marksAreGoneOnceRolledBack() {
        Edge.answers("rollBack() of one mark", () -> Edge.withMarks(1), 0, x -> x.rollBack());
        SegmentTimes x = Edge.withMarks(1);
        x.rollBack();
        Due.refused("rollBack() once more", x, Due.STATE, () -> x.rollBack());
        Due.is("a mark is the first one again", x.mark(), 1);
        x.pass(7);
        Due.is("rollBack() to it", x.rollBack(), 0);
        Due.is("its tick", x.now(), 0);
    }

    /** "A mark remembers the segments and the present tick." */
    private static void marksOfTheEmptyAndTheFullStore() {
        SegmentTimes x = new SegmentTimes();
        x.mark();
        for (int i = 0; i < 40; i++) {
            x.add(i, -i, i, i + 1);
        }
        Edge.passTo(x, 16383);
        x.mark();
        x.end(39);
        Due.is("to the full store", x.rollBack(), 1);
        Due.is("its tick", x.now(), 16383);
        for (int i = 0; i < 40; i++) {
            Due.segment(x, i, i, -i, i, i + 1, 0, 16384);
        }
        Due.refused("a segment 40", x, Due.STATE, () -> x.add(0, 0, 0, 0));
        Due.is("to the empty store", x.rollBack(), 0);
        Due.is("its tick", x.now(), 0);
        Due.is("its segments", x.segments(), 0);
        Due.is("its pieces", x.pieces(0), 1);
        Due.refused("segment(0, 0)", x, Due.INDEX, () -> x.segment(0, 0));
        Due.is("add gives the first number", x.add(5, 5, 5, 5), 0);
        Due.segment(x, 0, 5, 5, 5, 5, 0, 16384);
    }

    private static void marksRememberNoQueriesAndNoText() {
        SegmentTimes x = Edge.withQueries(29);
        x.solve();
        x.mark();
        x.collect(9, 9);
        x.append('s');
        Due.is("rollBack()", x.rollBack(), 0);
        Due.is("an answer stays", x.answer(28, 0), 7);
        Due.refused("the new query stays without one", x, Due.STATE, () -> x.answer(29, 0));
        Due.refused("the queries are 30", x, Due.STATE, () -> x.collect(0, 0));
        Due.is("the text stays", x.clearText(), 1);
        x.mark();
        x.forget();
        x.rollBack();
        Due.is("what was removed stays away", x.forget(), 0);
    }

    private static void undoable() {
        StateEdges.undoable("mark", x -> x.mark());
        StateEdges.undoable("rollBack", x -> x.rollBack());
        StateEdges.undoable("mark of an empty store", SegmentTimes::new, x -> x.mark());
    }
}
