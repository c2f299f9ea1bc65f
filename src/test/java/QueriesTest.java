/** Promises 27 to 30: queries that are collected and answered together. */
public final class QueriesTest {
    public static void main(String[] args) {
        collect();
        solveAndAnswer();
        answersStay();
        answerRefuses();
        forget();
        undoable();
        Due.finish();
    }

    private static void answer(SegmentTimes x, int query, long minimum, int segment, int there) {
        long[] due = {minimum, segment, there};
        for (int what = 0; what < 3; what++) {
            Due.is("answer(" + query + ", " + what + ")", x.answer(query, what), due[what]);
        }
    }

    private static void collect() {
        SegmentTimes x = new SegmentTimes();
        int[][] wrong = {{-1, 0}, {256, 0}, {0, -1}, {0, 16385}, {Integer.MIN_VALUE, 0}, {0, Integer.MAX_VALUE}};
        for (int i = 0; i < 30; i++) {
            Due.is("collect", x.collect(i % 2 == 0 ? 255 : 0, i % 3 == 0 ? 16384 : 0), i);
        }
        for (int[] w : wrong) {
            Due.refused("collect(" + w[0] + ", " + w[1] + ")", x, Due.ARGUMENT, () -> x.collect(w[0], w[1]));
        }
        Due.refused("collect of a query 30", x, Due.STATE, () -> x.collect(0, 0));
        x.forget();
        Due.is("collect after forget()", x.collect(1, 1), 0);
        for (int[] w : wrong) {
            Due.refused("collect(" + w[0] + ", " + w[1] + ")", x, Due.ARGUMENT, () -> x.collect(w[0], w[1]));
        }
    }

    private static SegmentTimes some() {
        SegmentTimes x = new SegmentTimes();
        x.addThrough(0, 0, 20, 20, 0, 100);
        x.addThrough(10, 10, 30, -10, 0, 50);
        x.add(0, 10, 5, 15);
        return x;
    }

    private static void solveAndAnswer() {
        SegmentTimes x = some();
        Due.is("solve() without queries", x.solve(), 0);
        x.collect(10, 0);
        x.collect(15, 49);
        x.collect(15, 50);
        x.collect(31, 0);
        x.collect(10, 16384);
        x.collect(10, 0);
        Due.is("solve()", x.solve(), 4);
        answer(x, 0, 10, 0, 3);
        answer(x, 1, 5, 1, 3);
        answer(x, 2, 10, 2, 2);
        answer(x, 3, Long.MAX_VALUE, -1, 0);
        answer(x, 4, Long.MAX_VALUE, -1, 0);
        answer(x, 5, 10, 0, 3);
        x.add(1000, 1000000, 255, 255);
        x.addThrough(254, -1000000, 255, -1000000, 16383, 16384);
        x.collect(255, 0);
        x.collect(254, 16383);
        Due.is("solve() of more", x.solve(), 6);
        answer(x, 6, 1255000, 3, 1);
        answer(x, 7, -1000000, 4, 1);
    }

    private static void answersStay() {
        SegmentTimes x = some();
        x.collect(10, 5);
        Due.is("solve()", x.solve(), 1);
        x.mark();
        x.add(0, -7, 0, 255);
        x.collect(10, 5);
        answer(x, 0, 10, 0, 3);
        Due.refused("answer(1, 0) before solve()", x, Due.STATE, () -> x.answer(1, 0));
        Due.is("solve() again", x.solve(), 2);
        answer(x, 0, -7, 3, 4);
        answer(x, 1, -7, 3, 4);
        x.rollBack();
        answer(x, 0, -7, 3, 4);
        Due.is("solve() after rollBack()", x.solve(), 2);
        answer(x, 1, 10, 0, 3);
        x.end(0);
        x.pass(20);
        answer(x, 1, 10, 0, 3);
    }

    private static void answerRefuses() {
        SegmentTimes x = some();
        Due.refused("answer(0, 0) without queries", x, Due.INDEX, () -> x.answer(0, 0));
        x.collect(0, 0);
        Due.refused("answer(0, 0) without answers", x, Due.STATE, () -> x.answer(0, 0));
        Due.refused("answer(0, 3) without answers", x, Due.ARGUMENT, () -> x.answer(0, 3));
        Due.refused("answer(0, -1) without answers", x, Due.ARGUMENT, () -> x.answer(0, -1));
        Due.refused("answer(1, 3)", x, Due.INDEX, () -> x.answer(1, 3));
        Due.refused("answer(-1, 0)", x, Due.INDEX, () -> x.answer(-1, 0));
        x.solve();
        answer(x, 0, 0, 0, 1);
        Due.refused("answer(0, 3)", x, Due.ARGUMENT, () -> x.answer(0, 3));
        Due.refused("answer(1, 0)", x, Due.INDEX, () -> x.answer(1, 0));
    }

    private static void forget() {
        SegmentTimes x = some();
        x.collect(0, 0);
        x.collect(1, 0);
        x.solve();
        Due.is("forget()", x.forget(), 2);
        Due.refused("answer(0, 0) after forget()", x, Due.INDEX, () -> x.answer(0, 0));
        Due.is("forget() again", x.forget(), 0);
        Due.is("collect after forget()", x.collect(3, 0), 0);
        Due.refused("an old answer", x, Due.STATE, () -> x.answer(0, 0));
        Due.is("solve()", x.solve(), 1);
        answer(x, 0, 3, 0, 1);
    }

    private static void undoable() {
        SegmentTimes x = some();
        x.collect(10, 0);
        x.collect(11, 0);
        Due.is("undo() of collect", x.undo(), 3);
        Due.refused("answer(1, 0) after undo()", x, Due.INDEX, () -> x.answer(1, 0));
        x.solve();
        Due.is("undo() of solve", x.undo(), 3);
        Due.refused("answer(0, 0) after undo()", x, Due.STATE, () -> x.answer(0, 0));
        x.solve();
        x.forget();
        Due.is("undo() of forget", x.undo(), 3);
        answer(x, 0, 10, 0, 3);
        Due.is("forget() after undo()", x.forget(), 1);
        Due.is("undo() again", x.undo(), 3);
        Due.is("undo() of solve", x.undo(), 2);
    }
}
