/** Promises 27 to 30, and their words in the Description: each sentence that names an edge. */
public final class QueriesEdgesTest {
    private static final long NO_MINIMUM = Long.MAX_VALUE;

    public static void main(String[] args) {
        collectRanges();
        collectWhenFull();
        collectAfterTheQueriesAreGone();
        solveFromNoneToAll();
        solveAtTheEdges();
        answerRanges();
        answerRefusalsInOrder();
        answersOfTheWidestValues();
        answersStayWhateverChanges();
        answersGo();
        laterQueriesHaveNone();
        forgetFromNoneToAll();
        undoable();
        Due.finish();
    }

    /** "x: 0 to 255", "t: 0 to 16384" */
    private static void collectRanges() {
        for (Edge.Maker maker : new Edge.Maker[] {SegmentTimes::new, Edge::rich}) {
            Edge.range("collect, x", maker, 0, 255, Due.ARGUMENT, (x, v) -> x.collect(v, 0));
            Edge.range("collect, t", maker, 0, 16384, Due.ARGUMENT, (x, v) -> x.collect(0, v));
            Edge.range("collect, x at 16384", maker, 0, 255, Due.ARGUMENT, (x, v) -> x.collect(v, 16384));
            Edge.range("collect, t at 255", maker, 0, 16384, Due.ARGUMENT, (x, v) -> x.collect(255, v));
        }
    }

    /** "if there are 30 queries" comes behind "if x or t is out of range". */
    private static void collectWhenFull() {
        Edge.answers("the query 29", () -> Edge.withQueries(29), 29, x -> x.collect(0, 0));
        Edge.refused("a query 30", () -> Edge.withQueries(30), Due.STATE, x -> x.collect(0, 0));
        Edge.refused("a query 30 of a full store", Edge::full, Due.STATE, x -> x.collect(255, 16384));
        int[][] wrong = {{-1, 0}, {256, 0}, {0, -1}, {0, 16385}, {Edge.LEAST, Edge.LEAST}, {Edge.MOST, Edge.MOST}};
        for (int[] w : wrong) {
            Edge.refused("a wrong query 30", Edge::full, Due.ARGUMENT, x -> x.collect(w[0], w[1]));
        }
        SegmentTimes x = new SegmentTimes();
        for (int i = 0; i < 30; i++) {
            Due.is("collect " + i, x.collect(255, 16384), i);
        }
        Due.refused("collect of a query 30", x, Due.STATE, () -> x.collect(255, 16384));
        x.undo();
        Due.is("the last query again after undo()", x.collect(0, 0), 29);
        Due.is("forget() of 30", x.forget(), 30);
    }

    private static void collectAfterTheQueriesAreGone() {
        SegmentTimes x = Edge.withQueries(30);
        x.forget();
        for (int i = 0; i < 30; i++) {
            Due.is("collect again " + i, x.collect(i, i), i);
        }
        Due.refused("collect of a query 30 again", x, Due.STATE, () -> x.collect(0, 0));
    }

    private static void answer(SegmentTimes x, int query, long minimum, int segment, int there) {
        Due.is("the minimum of query " + query, x.answer(query, 0), minimum);
        Due.is("the segment of query " + query, x.answer(query, 1), segment);
        Due.is("the number there of query " + query, x.answer(query, 2), there);
    }

    /** "Returns the number of queries at whose position and tick a segment is there." */
    private static void solveFromNoneToAll() {
        Edge.answers("solve() of an empty store", SegmentTimes::new, 0, x -> x.solve());
        Edge.answers("solve() without queries", () -> Edge.withQueries(0), 0, x -> x.solve());
        Edge.answers("solve() of one query", () -> Edge.withQueries(1), 1, x -> x.solve());
        Edge.answers("solve() of 30 queries", () -> Edge.withQueries(30), 30, x -> x.solve());
        Edge.answers("solve() again", Edge::full, 30, x -> x.solve());
        SegmentTimes x = new SegmentTimes();
        x.collect(0, 0);
        x.collect(255, 16384);
        Due.is("solve() without segments", x.solve(), 0);
        answer(x, 0, NO_MINIMUM, SegmentTimes.NONE, 0);
        answer(x, 1, NO_MINIMUM, SegmentTimes.NONE, 0);
    }

    /** "A segment is there at a position x and a tick t if it is live at t and x belongs to its range." */
    private static void solveAtTheEdges() {
        SegmentTimes x = new SegmentTimes();
        x.addThrough(10, 5, 20, 5, 100, 200);
        int[][] places = {{10, 100}, {20, 199}, {9, 100}, {21, 100}, {10, 99}, {10, 200}, {0, 0}, {255, 16384}};
        for (int[] place : places) {
            x.collect(place[0], place[1]);
        }
        Due.is("solve() at the edges", x.solve(), 2);
        answer(x, 0, 5, 0, 1);
        answer(x, 1, 5, 0, 1);
        for (int i = 2; i < places.length; i++) {
            answer(x, i, NO_MINIMUM, SegmentTimes.NONE, 0);
        }
    }

    private static SegmentTimes solved(int count) {
        SegmentTimes x = Edge.withQueries(count);
        x.solve();
        return x;
    }

    /** "if there is no such query", "if what is out of range" */
    private static void answerRanges() {
        for (int what = 0; what < 3; what++) {
            int w = what;
            Edge.range("answer, one query", () -> solved(1), 0, 0, Due.INDEX, (x, v) -> x.answer(v, w));
            Edge.range("answer, 30 queries", () -> solved(30), 0, 29, Due.INDEX, (x, v) -> x.answer(v, w));
            Edge.range("answer in a full store", Edge::full, 0, 29, Due.INDEX, (x, v) -> x.answer(v, w));
            Edge.refused("answer(0) of an empty store", SegmentTimes::new, Due.INDEX, x -> x.answer(0, w));
            Edge.refused("answer of a query without one", () -> Edge.withQueries(1), Due.STATE, x -> x.answer(0, w));
            Edge.refused("answer of a later query", Edge::rich, Due.STATE, x -> x.answer(1, w));
        }
        Edge.range("answer, what", () -> solved(1), 0, 2, Due.ARGUMENT, (x, v) -> x.answer(0, v));
        Edge.range("answer, what of the last", Edge::full, 0, 2, Due.ARGUMENT, (x, v) -> x.answer(29, v));
    }

    private static void answerRefusalsInOrder() {
        for (int what : new int[] {-1, 3, Edge.LEAST, Edge.MOST}) {
            Edge.refused("no such query first", SegmentTimes::new, Due.INDEX, x -> x.answer(0, what));
            Edge.refused("no such query first", Edge::rich, Due.INDEX, x -> x.answer(2, what));
            Edge.refused("no such query first", Edge::rich, Due.INDEX, x -> x.answer(-1, what));
            Edge.refused("a wrong what before no answer", Edge::rich, Due.ARGUMENT, x -> x.answer(1, what));
            Edge.refused("a wrong what", Edge::rich, Due.ARGUMENT, x -> x.answer(0, what));
        }
    }

    private static void answersOfTheWidestValues() {
        SegmentTimes x = new SegmentTimes();
        x.addThrough(255, 0, 255, 0, 0, 0);
        x.add(1000, 1000000, 255, 255);
        x.collect(255, 0);
        x.solve();
        answer(x, 0, 1255000, 1, 1);
        x.add(-1000, -1000000, 0, 255);
        x.solve();
        answer(x, 0, -1255000, 2, 2);
        SegmentTimes y = Edge.withSegments(40);
        y.collect(255, 16383);
        y.solve();
        answer(y, 0, 0, 0, 40);
    }

    /** "the answers stay as they are until the next call of solve() ..., whatever changes" */
    private static void answersStayWhateverChanges() {
        SegmentTimes x = new SegmentTimes();
        x.add(0, 8, 0, 255);
        x.collect(4, 6);
        x.mark();
        x.solve();
        x.add(0, -3, 0, 255);
        answer(x, 0, 8, 0, 1);
        x.addThrough(0, -9, 255, -9, 0, 16384);
        answer(x, 0, 8, 0, 1);
        x.lift(0, 100);
        answer(x, 0, 8, 0, 1);
        x.end(1);
        x.pass(1000);
        answer(x, 0, 8, 0, 1);
        x.collect(4, 6);
        answer(x, 0, 8, 0, 1);
        x.mark();
        x.rollBack();
        x.rollBack();
        answer(x, 0, 8, 0, 1);
        Edge.write(x, "a 0 -50 0 255;q 1 1;t 3;e 0;");
        Due.is("carryOut()", x.carryOut(), 4);
        answer(x, 0, 8, 0, 1);
        Due.thrown("the second has none", Due.STATE, () -> x.answer(1, 0));
        Due.is("solve() at last", x.solve(), 3);
        answer(x, 0, -50, 1, 1);
    }

    /** "... or a removal of the queries": a new query in the place of an old one has no answer. */
    private static void answersGo() {
        SegmentTimes x = solved(30);
        x.forget();
        for (int query : new int[] {0, 29}) {
            Due.thrown("answer(" + query + ", 0) after forget()", Due.INDEX, () -> x.answer(query, 0));
        }
        x.collect(0, 0);
        Due.thrown("answer of a new query 0", Due.STATE, () -> x.answer(0, 0));
        Due.thrown("answer of an old query 1", Due.INDEX, () -> x.answer(1, 0));
        SegmentTimes y = solved(1);
        y.collect(0, 0);
        y.solve();
        y.undo();
        answer(y, 0, 7, 0, 1);
        Due.thrown("answer of the second after undo() of solve()", Due.STATE, () -> y.answer(1, 0));
    }

    /** "A query that was collected after the last call of solve() has no answer." */
    private static void laterQueriesHaveNone() {
        SegmentTimes x = solved(29);
        x.collect(3, 3);
        Due.thrown("answer of the 30th query", Due.STATE, () -> x.answer(29, 0));
        answer(x, 28, 7, 0, 1);
        Due.is("solve()", x.solve(), 30);
        answer(x, 29, 7, 0, 1);
        SegmentTimes y = new SegmentTimes();
        y.solve();
        y.collect(0, 0);
        Due.thrown("answer after a solve() of nothing", Due.STATE, () -> y.answer(0, 0));
    }

    /** "Returns the number of queries that there were." */
    private static void forgetFromNoneToAll() {
        for (int count : new int[] {0, 1, 29, 30}) {
            Edge.answers("forget() of " + count, () -> Edge.withQueries(count), count, x -> x.forget());
            Edge.answers("forget() of " + count + " with answers", () -> solved(count), count, x -> x.forget());
        }
        SegmentTimes x = Edge.full();
        Due.is("forget()", x.forget(), 30);
        Due.is("forget() again", x.forget(), 0);
        Due.is("solve() of none", x.solve(), 0);
        Due.is("the segments stay", x.segments(), 40);
        Due.is("the present tick stays", x.now(), 1);
        Due.is("the marks stay", x.rollBack(), 4);
    }

    /** "Undoable", also where there is nothing to answer or to remove; answer() saves nothing. */
    private static void undoable() {
        StateEdges.undoable("collect", x -> x.collect(0, 0));
        StateEdges.undoable("solve", x -> x.solve());
        StateEdges.undoable("forget", x -> x.forget());
        StateEdges.undoable("solve of nothing", SegmentTimes::new, x -> x.solve());
        StateEdges.undoable("forget of nothing", SegmentTimes::new, x -> x.forget());
        StateEdges.savesNothing("answer", x -> x.answer(0, 0));
    }
}
