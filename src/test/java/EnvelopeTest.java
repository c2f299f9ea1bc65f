/** Promises 14 to 19: the lower envelope and what is told of it. */
public final class EnvelopeTest {
    public static void main(String[] args) {
        empty();
        crossing();
        equalValues();
        shortPieces();
        gaps();
        manyPieces();
        sums();
        visibleAndHidden();
        extremes();
        refusals();
        Due.finish();
    }

    private static void pieces(SegmentTimes x, int t, int[][] due) {
        Due.is("pieces(" + t + ")", x.pieces(t), due.length);
        for (int i = 0; i < due.length; i++) {
            for (int what = 0; what < 3; what++) {
                Due.is("piece(" + t + ", " + i + ", " + what + ")", x.piece(t, i, what), due[i][what]);
            }
        }
        Due.refused("the piece after the last", x, Due.INDEX, () -> x.piece(t, due.length, 0));
        Due.refused("the piece before the first", x, Due.INDEX, () -> x.piece(t, -1, 0));
    }

    private static void empty() {
        SegmentTimes x = new SegmentTimes();
        pieces(x, 0, new int[][] {{0, 255, -1}});
        x.add(0, 0, 0, 255);
        pieces(x, 0, new int[][] {{0, 255, 0}});
        pieces(x, 16383, new int[][] {{0, 255, 0}});
        pieces(x, 16384, new int[][] {{0, 255, -1}});
    }

    private static void crossing() {
        SegmentTimes x = new SegmentTimes();
        x.addThrough(0, 0, 100, 100, 0, 10);
        x.addThrough(0, 50, 100, -50, 0, 10);
        x.addThrough(40, 0, 60, 0, 5, 6);
        // equal at 25, so the smaller number stays the first one there
        pieces(x, 4, new int[][] {{0, 25, 0}, {26, 100, 1}, {101, 255, -1}});
        pieces(x, 5, new int[][] {{0, 25, 0}, {26, 39, 1}, {40, 49, 2}, {50, 100, 1}, {101, 255, -1}});
        pieces(x, 6, new int[][] {{0, 25, 0}, {26, 100, 1}, {101, 255, -1}});
    }

    private static void equalValues() {
        SegmentTimes x = new SegmentTimes();
        x.add(-1, 10, 0, 20);
        x.add(1, -10, 0, 20);
        x.add(0, 0, 5, 15);
        // all three are 0 at 10: the smallest number is the first one there
        pieces(x, 0, new int[][] {{0, 9, 1}, {10, 20, 0}, {21, 255, -1}});
        x.add(0, -20, 10, 10);
        pieces(x, 0, new int[][] {{0, 9, 1}, {10, 10, 3}, {11, 20, 0}, {21, 255, -1}});
        SegmentTimes y = new SegmentTimes();
        y.add(0, 3, 4, 8);
        y.add(0, 3, 0, 255);
        pieces(y, 0, new int[][] {{0, 3, 1}, {4, 8, 0}, {9, 255, 1}});
    }

    /** A piece of one position, a turn at the last common position, and one right after it. */
    private static void shortPieces() {
        SegmentTimes x = new SegmentTimes();
        x.add(10, 0, 0, 30);
        x.add(-10, 5, 0, 20);
        x.add(-10, 5 + 19, 0, 3);
        pieces(x, 0, new int[][] {{0, 0, 0}, {1, 20, 1}, {21, 30, 0}, {31, 255, -1}});
        SegmentTimes y = new SegmentTimes();
        y.add(0, 0, 0, 255);
        y.add(-1, 9, 0, 10);
        y.add(-1, 20, 0, 20);
        pieces(y, 0, new int[][] {{0, 9, 0}, {10, 10, 1}, {11, 255, 0}});
    }

    private static void gaps() {
        SegmentTimes x = new SegmentTimes();
        x.addThrough(255, 1, 255, 1, 0, 2);
        x.addThrough(0, 1, 0, 1, 0, 2);
        x.addThrough(100, 1, 101, 2, 0, 1);
        pieces(x, 0, new int[][] {{0, 0, 1}, {1, 99, -1}, {100, 101, 2}, {102, 254, -1}, {255, 255, 0}});
        pieces(x, 1, new int[][] {{0, 0, 1}, {1, 254, -1}, {255, 255, 0}});
        x.addThrough(1, 9, 254, 9, 1, 2);
        pieces(x, 1, new int[][] {{0, 0, 1}, {1, 254, 3}, {255, 255, 0}});
    }

    private static void manyPieces() {
        SegmentTimes x = new SegmentTimes();
        x.add(0, 0, 0, 255);
        for (int i = 1; i < 40; i++) {
            x.add(0, -1, 6 * i, 6 * i);
        }
        Due.is("pieces with 39 points", x.pieces(0), 79);
        for (int i = 1; i < 40; i++) {
            Due.is("the point " + i, x.piece(0, 2 * i - 1, 2), i);
            Due.is("its position", x.piece(0, 2 * i - 1, 0), 6 * i);
            Due.is("its end", x.piece(0, 2 * i - 1, 1), 6 * i);
            Due.is("before it", x.piece(0, 2 * i - 2, 2), 0);
        }
        Due.is("the last piece", x.piece(0, 78, 1), 255);
        Due.is("visible(0, 0)", x.visible(0, 0), 256 - 39);
        Due.is("sum", x.sum(0, 0, 255), -39);
    }

    private static void sums() {
        SegmentTimes x = new SegmentTimes();
        x.addThrough(10, 1, 13, 4, 2, 4);
        x.addThrough(12, -5, 20, -5, 3, 4);
        Due.is("sum before", x.sum(1, 0, 255), 0);
        Due.is("sum of 1, 2, 3, 4", x.sum(2, 0, 255), 10);
        Due.is("sum of an odd number", x.sum(2, 10, 12), 6);
        Due.is("sum of one position", x.sum(2, 13, 13), 4);
        Due.is("sum of a position without segment", x.sum(2, 14, 14), 0);
        Due.is("sum of two pieces", x.sum(3, 11, 13), 2 - 10);
        Due.is("sum of all pieces", x.sum(3, 0, 255), 3 - 45);
        Due.is("sum at 16384", x.sum(16384, 0, 255), 0);
        x.add(-1000, -1000000, 0, 255);
        Due.is("the least sum", x.sum(0, 0, 255), -256000000L - 1000L * 32640);
        SegmentTimes y = new SegmentTimes();
        y.add(1000, 1000000, 0, 255);
        Due.is("the greatest sum", y.sum(0, 0, 255), 256000000L + 1000L * 32640);
        Due.is("sum at the edge", y.sum(0, 255, 255), 1255000);
        Due.is("sum at the other edge", y.sum(0, 0, 0), 1000000);
    }

    private static void visibleAndHidden() {
        SegmentTimes x = new SegmentTimes();
        x.addThrough(0, 0, 50, 50, 0, 100);
        x.addThrough(0, 50, 50, 0, 0, 100);
        x.addThrough(25, 25, 25, 25, 0, 50);
        x.addThrough(20, 90, 30, 90, 40, 60);
        x.addThrough(0, 90, 51, 90, 40, 60);
        Due.is("visible(0, 0)", x.visible(0, 0), 26);
        Due.is("visible(1, 0)", x.visible(1, 0), 25);
        Due.is("visible(2, 0), equal but later", x.visible(2, 0), 0);
        Due.is("visible(3, 0), not live", x.visible(3, 0), 0);
        Due.is("visible(4, 40)", x.visible(4, 40), 1);
        Due.is("hidden(0)", x.hidden(0), 1);
        Due.is("hidden(40)", x.hidden(40), 2);
        Due.is("hidden(50)", x.hidden(50), 1);
        Due.is("hidden(60)", x.hidden(60), 0);
        Due.is("hidden(100)", x.hidden(100), 0);
        Due.is("hidden(16384)", x.hidden(16384), 0);
        x.add(0, -100, 26, 26);
        Due.is("visible in two pieces", x.visible(1, 0), 24);
        Due.is("a point", x.visible(5, 0), 1);
        x.add(0, -200, 26, 26);
        Due.is("a point under it", x.hidden(0), 2);
        x.add(0, -300, 0, 255);
        Due.is("one under all, so that the first segment is hidden too", x.hidden(0), 5);
    }

    private static void extremes() {
        SegmentTimes x = new SegmentTimes();
        x.addThrough(10, 5, 20, 5, 0, 10);
        Due.is("the first of equal minima", x.extreme(0, false), 10);
        Due.is("the first of equal maxima", x.extreme(0, true), 10);
        x.addThrough(30, 1, 40, 11, 0, 5);
        Due.is("smallest of a rising one", x.extreme(0, false), 30);
        Due.is("greatest of a rising one", x.extreme(0, true), 40);
        Due.is("not live any more", x.extreme(5, true), 10);
        x.addThrough(50, 11, 60, 1, 0, 5);
        Due.is("smallest, equal to one before", x.extreme(0, false), 30);
        Due.is("greatest, equal to one before", x.extreme(0, true), 40);
        x.addThrough(30, 2, 30, 2, 0, 5);
        x.addThrough(40, 2, 40, 2, 0, 5);
        Due.is("greatest of a falling one", x.extreme(0, true), 50);
        x.addThrough(60, 0, 60, 0, 3, 4);
        Due.is("smallest of a point", x.extreme(3, false), 60);
        Due.is("none live", x.extreme(10, false), -1);
        Due.is("none live, greatest", x.extreme(10, true), -1);
        SegmentTimes y = new SegmentTimes();
        y.add(-1, 0, 7, 9);
        Due.is("smallest of a falling one", y.extreme(0, false), 9);
        Due.is("greatest of a falling one", y.extreme(0, true), 7);
        Due.is("extreme(16384)", y.extreme(16384, true), -1);
        y.add(5, 0, 0, 4);
        Due.is("greatest in the first piece", y.extreme(0, true), 4);
        y.add(0, -50, 0, 1);
        Due.is("smallest in the first piece", y.extreme(0, false), 0);
    }

    private static void refusals() {
        SegmentTimes x = new SegmentTimes();
        x.add(1, 1, 1, 1);
        for (int t : new int[] {-1, 16385, Integer.MIN_VALUE, Integer.MAX_VALUE}) {
            Due.refused("pieces(" + t + ")", x, Due.ARGUMENT, () -> x.pieces(t));
            Due.refused("piece(" + t + ", 9, 0)", x, Due.ARGUMENT, () -> x.piece(t, 9, 0));
            Due.refused("sum(" + t + ", 0, 0)", x, Due.ARGUMENT, () -> x.sum(t, 0, 0));
            Due.refused("visible(0, " + t + ")", x, Due.ARGUMENT, () -> x.visible(0, t));
            Due.refused("visible(1, " + t + ")", x, Due.INDEX, () -> x.visible(1, t));
            Due.refused("hidden(" + t + ")", x, Due.ARGUMENT, () -> x.hidden(t));
            Due.refused("extreme(" + t + ")", x, Due.ARGUMENT, () -> x.extreme(t, false));
        }
        Due.refused("piece(0, 9, 3)", x, Due.ARGUMENT, () -> x.piece(0, 9, 3));
        Due.refused("piece(0, 0, -1)", x, Due.ARGUMENT, () -> x.piece(0, 0, -1));
        Due.refused("piece(0, 3, 2)", x, Due.INDEX, () -> x.piece(0, 3, 2));
        Due.refused("sum(0, -1, 0)", x, Due.ARGUMENT, () -> x.sum(0, -1, 0));
        Due.refused("sum(0, 1, 0)", x, Due.ARGUMENT, () -> x.sum(0, 1, 0));
        Due.refused("sum(0, 0, 256)", x, Due.ARGUMENT, () -> x.sum(0, 0, 256));
        Due.refused("visible(-1, 0)", x, Due.INDEX, () -> x.visible(-1, 0));
    }
}
