/** Promises 36 and 37: undo and digest. */
public final class StateTest {
    public static void main(String[] args) {
        fourStates();
        failuresDropNothing();
        everything();
        notUndoable();
        digestOfAll();
        digestSeesAll();
        Due.finish();
    }

    private static void fourStates() {
        SegmentTimes x = new SegmentTimes();
        Due.refused("undo() of a new object", x, Due.STATE, () -> x.undo());
        for (int i = 1; i <= 6; i++) {
            x.pass(i);
        }
        int[] due = {15, 10, 6, 3};
        for (int i = 0; i < 4; i++) {
            Due.is("undo()", x.undo(), 3 - i);
            Due.is("now()", x.now(), due[i]);
        }
        Due.refused("undo() of the dropped ones", x, Due.STATE, () -> x.undo());
        Due.is("now()", x.now(), 3);
        for (int round = 0; round < 13; round++) {
            x.pass(round);
            x.pass(100);
            Due.is("undo() of 100", x.undo(), Math.min(round + 1, 3));
            Due.is("now()", x.now(), 3 + round * (round + 1) / 2);
        }
    }

    /** Calls and texts that fail drop no saved state. */
    private static void failuresDropNothing() {
        SegmentTimes x = new SegmentTimes();
        for (int i = 1; i <= 6; i++) {
            x.pass(i);
        }
        Due.refused("a refused call", x, Due.ARGUMENT, () -> x.pass(-1));
        Due.write(x, "t 7;a 0 0 0 0;e 5;");
        Due.is("a failing text", x.carryOut(), -1002);
        Due.write(x, "t");
        Due.is("a wrong text", x.carryOut(), -11);
        int[] due = {15, 10, 6, 3};
        for (int i = 0; i < 4; i++) {
            Due.is("undo()", x.undo(), 3 - i);
            Due.is("now()", x.now(), due[i]);
            Due.is("segments()", x.segments(), 0);
        }
    }

    private static void everything() {
        SegmentTimes x = new SegmentTimes();
        x.add(1, 5, 0, 10);
        x.collect(4, 0);
        x.solve();
        x.mark();
        long before = x.digest();
        x.mark();
        x.lift(0, -3);
        x.forget();
        x.undo();
        x.undo();
        Due.is("undo()", x.undo(), 1);
        x.solve();
        x.undo();
        Due.is("the answers of before", x.answer(0, 0), 9);
        Due.segment(x, 0, 1, 5, 0, 10, 0, 16384);
        Due.is("a rollBack() to the mark of before", x.rollBack(), 0);
        SegmentTimes y = new SegmentTimes();
        y.add(1, 5, 0, 10);
        y.collect(4, 0);
        y.solve();
        y.mark();
        Due.is("digest()", y.digest(), before);
        y.pass(0);
        Due.is("undo() of a call that changed nothing", y.undo(), 3);
        Due.is("digest() has one saved state less", y.digest(), before - 1);
    }

    private static void notUndoable() {
        SegmentTimes x = new SegmentTimes();
        x.pass(1);
        Due.write(x, "t 5;");
        x.carryOut();
        Due.is("undo()", x.undo(), 1);
        Due.is("now()", x.now(), 1);
        Due.is("the text is not undone", x.carryOut(), 1);
        Due.is("now()", x.now(), 6);
        x.clearText();
        x.minimum(0, 0);
        x.pieces(0);
        x.digest();
        x.now();
        Due.refused("a refused call", x, Due.ARGUMENT, () -> x.pass(-1));
        Due.is("undo() of carryOut", x.undo(), 1);
        Due.is("now()", x.now(), 1);
        Due.is("undo() of pass", x.undo(), 0);
        Due.is("undone are the states alone", x.clearText(), 0);
    }

    private static long mixed(long h, long... values) {
        for (long v : values) {
            h = 31 * h + v;
        }
        return h;
    }

    private static void digestOfAll() {
        SegmentTimes x = new SegmentTimes();
        Due.is("digest() of a new object", x.digest(), mixed(2927, 0, 0, 0, 0, 0, 1, 0, 255, -1, 0, 0));
        x.add(2, -7, 10, 20);
        x.pass(3);
        x.collect(12, 0);
        x.collect(9, 5);
        x.solve();
        x.collect(1, 2);
        x.mark();
        x.append('s');
        x.append(';');
        x.append(';');
        Due.is("digest()", x.digest(), mixed(2927, 3, 3, 1, 2, -7, 10, 20, 0, 16384,
                3, 12, 0, 1, 17, 0, 1, 9, 5, 1, Long.MAX_VALUE, -1, 0, 1, 2, 0,
                1, 3, 0, 9, -1, 10, 20, 0, 21, 255, -1, 13 + 15 + 17 + 19 + 21 + 23 + 25 + 27 + 29 + 31 + 33, 4));
        Due.is("digest() again", x.digest(), x.digest());
        x.end(0);
        Due.is("digest() at another tick", x.digest(), mixed(2927, 3, 3, 1, 2, -7, 10, 20, 0, 3,
                3, 12, 0, 1, 17, 0, 1, 9, 5, 1, Long.MAX_VALUE, -1, 0, 1, 2, 0, 1, 1, 0, 255, -1, 0, 4));
    }

    private static void digestSeesAll() {
        SegmentTimes x = new SegmentTimes();
        x.addThrough(3, 9, 5, 11, 4, 8);
        x.addThrough(0, 1000000, 255, 1000000, 0, 16384);
        x.pass(4);
        Due.is("digest() with a piece of each", x.digest(), mixed(2927, 0, 4, 2, 1, 6, 3, 5, 4, 8,
                0, 1000000, 0, 255, 0, 16384, 0, 0, 3, 0, 2, 1, 3, 5, 0, 6, 255, 1, 253000000L + 30, 3));
        x.pass(4);
        Due.is("digest() later", x.digest(), mixed(2927, 0, 8, 2, 1, 6, 3, 5, 4, 8,
                0, 1000000, 0, 255, 0, 16384, 0, 0, 1, 0, 255, 1, 256000000L, 4));
    }
}
