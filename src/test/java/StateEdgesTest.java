import java.math.BigInteger;

/** Promises 36 and 37, and their words in the Description: each sentence that names an edge. */
public final class StateEdgesTest {
    private static final long NO_MINIMUM = Long.MAX_VALUE;

    public static void main(String[] args) {
        undoOfNothing();
        undoFromOneToFour();
        oldestIsDroppedFirst();
        callsThatChangeNothingAreSaved();
        everythingButTheTextComesBack();
        fullStateComesBack();
        undoIsNotUndone();
        digestOfTheEmptyStore();
        digestOfSomeOfEverything();
        digestOfTheFullStore();
        digestCountsSavedStatesAndMarks();
        overflowIsIgnored();
        digestChangesNothing();
        lastOf512Calls();
        objectsKnowNothingOfEachOther();
        Due.finish();
    }

    /** "if there is no saved state" */
    private static void undoOfNothing() {
        Edge.refused("undo() of a new object", SegmentTimes::new, Due.STATE, x -> x.undo());
        Edge.refused("undo() of what was all taken back", Edge::unsaved, Due.STATE, x -> x.undo());
        Edge.refused("undo() after calls that save nothing", () -> {
            SegmentTimes x = new SegmentTimes();
            x.append('t');
            x.carryOut();
            x.clearText();
            x.append('s');
            x.digest();
            return x;
        }, Due.STATE, x -> x.undo());
        SegmentTimes x = new SegmentTimes();
        Due.thrown("a refused call", Due.ARGUMENT, () -> x.pass(1001));
        Due.refused("undo() after a refused call", x, Due.STATE, () -> x.undo());
    }

    private static SegmentTimes passed(int times) {
        SegmentTimes x = new SegmentTimes();
        for (int i = 1; i <= times; i++) {
            x.pass(i);
        }
        return x;
    }

    /** "Returns the number of saved states that remain.": "at most 4 states are saved" */
    private static void undoFromOneToFour() {
        for (int times = 1; times <= 9; times++) {
            SegmentTimes x = passed(times);
            int saved = Math.min(times, 4);
            for (int i = 1; i <= saved; i++) {
                int left = times - i;
                Due.is("undo() after " + times + " calls", x.undo(), saved - i);
                Due.is("now() then", x.now(), left * (left + 1) / 2);
            }
            Due.refused("undo() once more after " + times + " calls", x, Due.STATE, () -> x.undo());
        }
    }

    /** "the oldest is dropped first", also when some were taken back in between */
    private static void oldestIsDroppedFirst() {
        SegmentTimes x = passed(4);
        x.pass(100);
        Due.is("undo() of the fifth", x.undo(), 3);
        Due.is("now()", x.now(), 10);
        x.pass(200);
        Due.is("undo() with four again", x.undo(), 3);
        x.undo();
        x.undo();
        Due.is("undo() of the second, the oldest that is left", x.undo(), 0);
        Due.is("now()", x.now(), 1);
        Due.refused("undo() of the first, which was dropped", x, Due.STATE, () -> x.undo());
        for (int i = 0; i < 5; i++) {
            x.pass(10);
        }
        for (int i = 3; i >= 0; i--) {
            Due.is("undo() in the next round", x.undo(), i);
            Due.is("now() in the next round", x.now(), 11 + 10 * i);
        }
        Due.refused("undo() at its end", x, Due.STATE, () -> x.undo());
    }

    /** "even if the call changes nothing" */
    private static void callsThatChangeNothingAreSaved() {
        SegmentTimes x = new SegmentTimes();
        long before = x.digest();
        x.pass(0);
        x.solve();
        x.forget();
        x.carryOut();
        Due.is("digest() with four saved states", x.digest(), before + 4);
        for (int i = 3; i >= 0; i--) {
            Due.is("undo() of a call that changed nothing", x.undo(), i);
        }
        Due.is("digest() at last", x.digest(), before);
    }

    /** "everything (segments, present tick, queries and answers, marks) except the script text" */
    private static void everythingButTheTextComesBack() {
        SegmentTimes x = Edge.rich();
        Edge.write(x, "s");
        x.rollBack();
        x.forget();
        x.add(9, 9, 9, 9);
        x.pass(100);
        for (int i = 3; i >= 0; i--) {
            Due.is("undo()", x.undo(), i);
        }
        Due.is("the present tick", x.now(), 5);
        Due.is("the segments", x.segments(), 3);
        Due.segment(x, 0, 1, 0, 0, 20, 0, 3);
        Due.segment(x, 1, -2, 19, 5, 9, 2, 3);
        Due.segment(x, 2, 1, -4, 0, 20, 3, 16384);
        long[] answers = {5, 0, 2};
        for (int what = 0; what < 3; what++) {
            Due.is("the answers", x.answer(0, what), answers[what]);
        }
        Due.thrown("the query without one", Due.STATE, () -> x.answer(1, 0));
        Due.is("not the text", x.clearText(), 1);
        int[] ticks = {3, 3, 0};
        int[] segments = {3, 2, 2};
        for (int i = 0; i < 3; i++) {
            Due.is("the marks", x.rollBack(), 2 - i);
            Due.is("the tick of the mark", x.now(), ticks[i]);
            Due.is("the segments of the mark", x.segments(), segments[i]);
        }
    }

    private static void fullStateComesBack() {
        SegmentTimes x = Edge.full();
        long before = x.digest();
        x.rollBack();
        x.rollBack();
        x.forget();
        x.pass(1000);
        for (int i = 3; i >= 0; i--) {
            Due.is("undo() to the full store", x.undo(), i);
        }
        Due.is("digest() of the full store without saved states", x.digest(), before - 4);
        Due.thrown("a segment 40", Due.STATE, () -> x.add(0, 0, 0, 0));
        Due.thrown("a query 30", Due.STATE, () -> x.collect(0, 0));
        Due.thrown("a sixth mark", Due.STATE, () -> x.mark());
    }

    /** undo() is not undoable: it removes a saved state and saves none. */
    private static void undoIsNotUndone() {
        SegmentTimes x = passed(2);
        Due.is("undo()", x.undo(), 1);
        Due.is("undo() goes on", x.undo(), 0);
        Due.is("now()", x.now(), 0);
        Due.refused("undo() of undo()", x, Due.STATE, () -> x.undo());
    }

    /** Without the wrap-around of long: the sum is made whole, and only its last 64 bits are kept. */
    private static long hash(long... values) {
        BigInteger h = BigInteger.valueOf(2927);
        for (long v : values) {
            h = h.multiply(BigInteger.valueOf(31)).add(BigInteger.valueOf(v));
        }
        return h.longValue();
    }

    private static void digestOfTheEmptyStore() {
        Due.is("digest() of a new object", new SegmentTimes().digest(), hash(0, 0, 0, 0, 0, 1, 0, 255, -1, 0, 0));
        Due.is("digest() at 16383", Edge.atTick(16383).digest(), hash(0, 16383, 0, 0, 0, 1, 0, 255, -1, 0, 4));
    }

    private static void digestOfSomeOfEverything() {
        Due.is("digest() of some of everything", Edge.rich().digest(), hash(18, 5, 3, 1, 0, 0, 20, 0, 3,
                -2, 19, 5, 9, 2, 3, 1, -4, 0, 20, 3, 16384, 2, 5, 3, 1, 5, 0, 2, 200, 0, 0, 3,
                2, 0, 20, 2, 21, 255, -1, 126, 4));
        SegmentTimes x = new SegmentTimes();
        x.collect(255, 16384);
        x.solve();
        x.add(-1, 0, 255, 255);
        Due.is("digest() with an answer of no segment", x.digest(), hash(0, 0, 1, -1, 0, 255, 255, 0, 16384,
                1, 255, 16384, 1, NO_MINIMUM, -1, 0, 0, 2, 0, 254, -1, 255, 255, 0, -255, 3));
    }

    private static void digestOfTheFullStore() {
        long[] values = new long[2000];
        int n = 0;
        values[n++] = 120;
        values[n++] = 1;
        values[n++] = 40;
        for (int i = 0; i < 40; i++) {
            for (long v : new long[] {0, 7 + i, 0, 255, 0, 16384}) {
                values[n++] = v;
            }
        }
        values[n++] = 30;
        for (int i = 0; i < 30; i++) {
            for (long v : new long[] {i, 0, 1, 7, 0, 1}) {
                values[n++] = v;
            }
        }
        for (long v : new long[] {5, 1, 0, 255, 0, 7 * 256, 4}) {
            values[n++] = v;
        }
        Due.is("digest() of a full store", Edge.full().digest(), hash(java.util.Arrays.copyOf(values, n)));
    }

    /** "the number of saved states" is the last value, 0 to 4; "the number of marks" is 0 to 5. */
    private static void digestCountsSavedStatesAndMarks() {
        for (int times = 0; times <= 6; times++) {
            SegmentTimes x = new SegmentTimes();
            for (int i = 0; i < times; i++) {
                x.pass(0);
            }
            Due.is("digest() after " + times + " calls", x.digest(),
                    hash(0, 0, 0, 0, 0, 1, 0, 255, -1, 0, Math.min(times, 4)));
        }
        SegmentTimes x = new SegmentTimes();
        for (int marks = 1; marks <= 5; marks++) {
            x.mark();
            Due.is("digest() with " + marks + " marks", x.digest(),
                    hash(0, 0, 0, 0, marks, 1, 0, 255, -1, 0, Math.min(marks, 4)));
        }
    }

    /** "with the overflow of long arithmetic ignored": the sums of negative and of great values wrap. */
    private static void overflowIsIgnored() {
        SegmentTimes x = new SegmentTimes();
        x.add(-1000, -1000000, 0, 255);
        x.add(1000, 1000000, 0, 255);
        Due.is("digest() of the widest lines", x.digest(), hash(0, 0, 2, -1000, -1000000, 0, 255, 0, 16384,
                1000, 1000000, 0, 255, 0, 16384, 0, 0, 1, 0, 255, 0, -288640000L, 2));
        Edge.passTo(x, 16383);
        x.end(0);
        Due.is("digest() of the greatest sum", x.digest(), hash(0, 16383, 2, -1000, -1000000, 0, 255, 0, 16383,
                1000, 1000000, 0, 255, 0, 16384, 0, 0, 1, 0, 255, 1, 288640000L, 4));
    }

    private static void digestChangesNothing() {
        for (Edge.Maker maker : new Edge.Maker[] {SegmentTimes::new, Edge::rich, Edge::unsaved, Edge::full}) {
            Edge.leaves("digest()", maker, maker.make().digest(), x -> x.digest());
        }
        StateEdges.savesNothing("digest", x -> x.digest());
    }

    /** "An object is used for at most 512 calls": the last of them are answered like the first. */
    private static void lastOf512Calls() {
        SegmentTimes x = new SegmentTimes();
        for (int call = 1; call <= 507; call++) {
            Due.is("call " + call, x.pass(1), call);
        }
        for (int call = 508; call <= 511; call++) {
            Due.is("call " + call, x.undo(), 511 - call);
        }
        Due.thrown("call 512", Due.STATE, () -> x.undo());
        SegmentTimes y = new SegmentTimes();
        for (int call = 1; call <= 511; call++) {
            if (call <= 40) {
                y.add(0, 7, 0, 255);
            } else {
                y.pass(1);
            }
        }
        Due.is("call 512", y.minimum(255, 16383), 7);
    }

    /** A new object is empty, whatever others hold, and what they do leaves it as it is. */
    private static void objectsKnowNothingOfEachOther() {
        SegmentTimes first = Edge.rich();
        SegmentTimes second = new SegmentTimes();
        long rich = first.digest();
        long empty = second.digest();
        SegmentTimes third = Edge.full();
        Due.is("digest() of the first beside a third", first.digest(), rich);
        Due.is("digest() of the second beside a third", second.digest(), empty);
        Due.thrown("undo() of the second", Due.STATE, () -> second.undo());
        Due.thrown("rollBack() of the second", Due.STATE, () -> second.rollBack());
        Due.is("carryOut() of the second", second.carryOut(), 0);
        Due.is("pieces of the first", first.pieces(5), Edge.rich().pieces(5));
        Due.is("pieces of the second", second.pieces(5), 1);
        Due.is("a piece of the first", first.piece(5, 1, 0), 21);
        third.forget();
        third.rollBack();
        Due.is("undo() of the first", first.undo(), 3);
        Due.is("its tick", first.now(), 3);
        Due.is("its answer", first.answer(0, 0), 5);
        Due.is("the third goes on", third.now(), 1);
    }
}
