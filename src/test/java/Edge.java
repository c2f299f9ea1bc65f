/**
 * What the tests of edges share: ranges with both their ends, and calls that must change nothing. A
 * call is made on an object of its own, so that no test hangs on what another one left behind.
 */
final class Edge {
    interface Maker {
        SegmentTimes make();
    }

    interface Call {
        long run(SegmentTimes x);
    }

    interface Valued {
        long run(SegmentTimes x, int value);
    }

    static final int LEAST = Integer.MIN_VALUE;
    static final int MOST = Integer.MAX_VALUE;
    private static final long REFUSED = Long.MIN_VALUE;

    private Edge() {
    }

    /** The values low and high are taken; the next ones outside, and the widest ones, are refused. */
    static void range(String told, Maker maker, int low, int high, Class<? extends RuntimeException> due,
            Valued call) {
        for (int value : new int[] {low, high}) {
            taken(told + " with " + value, maker, x -> call.run(x, value));
        }
        for (int value : new int[] {low - 1, high + 1, LEAST, MOST}) {
            refused(told + " with " + value, maker, due, x -> call.run(x, value));
        }
    }

    static void taken(String told, Maker maker, Call call) {
        SegmentTimes x = maker.make();
        Due.thrown(told, null, () -> call.run(x));
    }

    static void answers(String told, Maker maker, long due, Call call) {
        Due.is(told, call.run(maker.make()), due);
    }

    /** The call throws exactly this, and the object goes on like one on which it was never made. */
    static void refused(String told, Maker maker, Class<? extends RuntimeException> due, Call call) {
        unchanged(told, maker, x -> Due.thrown(told, due, () -> call.run(x)));
    }

    /** The call answers this, and the object goes on like one on which it was never made. */
    static void leaves(String told, Maker maker, long due, Call call) {
        unchanged(told, maker, x -> Due.is(told, call.run(x), due));
    }

    private interface Step {
        void run(SegmentTimes x);
    }

    private static void unchanged(String told, Maker maker, Step step) {
        SegmentTimes touched = maker.make();
        step.run(touched);
        alikeInUndo("after " + told, touched, maker.make());
        touched = maker.make();
        step.run(touched);
        alikeInMarksAndText("after " + told, touched, maker.make());
    }

    private static void alikeInUndo(String told, SegmentTimes x, SegmentTimes y) {
        Due.is("digest() " + told, x.digest(), y.digest());
        for (int i = 0; i < 5; i++) {
            Due.is("undo() " + told, outcome(() -> x.undo()), outcome(() -> y.undo()));
            Due.is("digest() after undo() " + told, x.digest(), y.digest());
        }
    }

    private static void alikeInMarksAndText(String told, SegmentTimes x, SegmentTimes y) {
        for (int i = 0; i < 6; i++) {
            Due.is("rollBack() " + told, outcome(() -> x.rollBack()), outcome(() -> y.rollBack()));
            Due.is("digest() after rollBack() " + told, x.digest(), y.digest());
        }
        Due.is("carryOut() " + told, x.carryOut(), y.carryOut());
        Due.is("digest() after carryOut() " + told, x.digest(), y.digest());
    }

    private static long outcome(Due.Call call) {
        try {
            return call.run();
        } catch (IllegalStateException e) {
            return REFUSED;
        }
    }

    /**
     * Something of everything, at tick 5: the segments 0 (ended), 1 (ended) and 2 (live, x - 4 at 0 to
     * 20), a query with an answer and one without, three marks, a text, and four saved states.
     */
    static SegmentTimes rich() {
        SegmentTimes x = new SegmentTimes();
        x.add(1, 0, 0, 20);
        x.addThrough(5, 9, 9, 1, 2, 40);
        x.mark();
        x.pass(3);
        x.collect(5, 3);
        x.solve();
        x.collect(200, 0);
        x.mark();
        x.lift(0, -4);
        x.end(1);
        x.mark();
        x.pass(2);
        write(x, "t 7;a 0 0 1 2;e 2;");
        return x;
    }

    /** As rich(), but without a saved state: its last four are taken back. */
    static SegmentTimes unsaved() {
        SegmentTimes x = rich();
        for (int i = 0; i < 4; i++) {
            x.undo();
        }
        return x;
    }

    /** This many segments, all with the value 0 at 0 to 255 and live from 0 on. */
    static SegmentTimes withSegments(int count) {
        SegmentTimes x = new SegmentTimes();
        for (int i = 0; i < count; i++) {
            x.add(0, 0, 0, 255);
        }
        return x;
    }

    static SegmentTimes withQueries(int count) {
        SegmentTimes x = new SegmentTimes();
        x.add(0, 7, 0, 255);
        for (int i = 0; i < count; i++) {
            x.collect(i, 0);
        }
        return x;
    }

    static SegmentTimes withMarks(int count) {
        SegmentTimes x = new SegmentTimes();
        for (int i = 0; i < count; i++) {
            x.add(i, i, 0, i);
            x.mark();
        }
        return x;
    }

    /** 40 segments, 30 queries with answers, 5 marks, 120 bytes and 4 saved states, at tick 1. */
    static SegmentTimes full() {
        SegmentTimes x = withQueries(30);
        x.solve();
        for (int i = 1; i < 40; i++) {
            x.add(0, 7 + i, 0, 255);
        }
        x.pass(1);
        for (int i = 0; i < 5; i++) {
            x.mark();
        }
        write(x, repeated("t 1;", 30));
        return x;
    }

    static SegmentTimes atTick(int tick) {
        SegmentTimes x = new SegmentTimes();
        passTo(x, tick);
        return x;
    }

    static void passTo(SegmentTimes x, int tick) {
        while (x.now() < tick) {
            x.pass(Math.min(1000, tick - x.now()));
        }
    }

    static SegmentTimes withText(String text) {
        SegmentTimes x = rich();
        write(x, text);
        return x;
    }

    static void write(SegmentTimes x, String text) {
        x.clearText();
        for (int i = 0; i < text.length(); i++) {
            x.append(text.charAt(i));
        }
    }

    static String repeated(String text, int times) {
        return text.repeat(times);
    }
}
