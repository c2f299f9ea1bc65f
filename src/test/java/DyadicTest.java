/** Promises 24 to 26: canonical divisions of lives into dyadic intervals. */
public final class DyadicTest {
    public static void main(String[] args) {
        divisions();
        changedLives();
        unionsAndSizes();
        holders();
        refusals();
        Due.finish();
    }

    private static void division(SegmentTimes x, int segment, int... startsAndLengths) {
        int count = startsAndLengths.length / 2;
        Due.is("intervals(" + segment + ")", x.intervals(segment), count);
        for (int i = 0; i < count; i++) {
            Due.is("first tick " + segment + ", " + i, x.interval(segment, i, false), startsAndLengths[2 * i]);
            Due.is("length " + segment + ", " + i, x.interval(segment, i, true), startsAndLengths[2 * i + 1]);
        }
        for (boolean length : new boolean[] {false, true}) {
            Due.refused("interval before", x, Due.INDEX, () -> x.interval(segment, -1, length));
            Due.refused("interval after", x, Due.INDEX, () -> x.interval(segment, count, length));
            Due.refused("interval far after", x, Due.INDEX, () -> x.interval(segment, Integer.MAX_VALUE, length));
        }
    }

    private static void divisions() {
        SegmentTimes x = new SegmentTimes();
        int[][] lives = {{3, 13}, {0, 16384}, {0, 0}, {16384, 16384}, {5, 6}, {16383, 16384}, {0, 7}, {8192, 16384},
            {8191, 8193}, {4, 16}};
        for (int[] life : lives) {
            x.addThrough(0, 0, 0, 0, life[0], life[1]);
        }
        division(x, 0, 3, 1, 4, 4, 8, 4, 12, 1);
        division(x, 1, 0, 16384);
        division(x, 2);
        division(x, 3);
        division(x, 4, 5, 1);
        division(x, 5, 16383, 1);
        division(x, 6, 0, 4, 4, 2, 6, 1);
        division(x, 7, 8192, 8192);
        division(x, 8, 8191, 1, 8192, 1);
        division(x, 9, 4, 4, 8, 8);
        x.addThrough(0, 0, 0, 0, 1, 16383);
        int[] widest = new int[52];
        for (int j = 0; j < 13; j++) {
            widest[2 * j] = 1 << j;
            widest[2 * j + 1] = 1 << j;
            widest[50 - 2 * j] = 16384 - (2 << j);
            widest[51 - 2 * j] = 1 << j;
        }
        division(x, 10, widest);
    }

    private static void changedLives() {
        SegmentTimes x = new SegmentTimes();
        x.add(0, 0, 0, 0);
        x.pass(6);
        x.add(0, 0, 0, 0);
        Due.is("an open life from 6 on", x.intervals(1), 12);
        Due.is("its first interval", x.interval(1, 0, true), 2);
        Due.is("its last interval", x.interval(1, 11, true), 8192);
        x.end(0);
        division(x, 0, 0, 4, 4, 2);
        x.end(1);
        division(x, 1);
    }

    /** The intervals lie one after the other, and no two halves of a larger one follow each other. */
    private static void unionsAndSizes() {
        SegmentTimes x = new SegmentTimes();
        int[] ends = {1, 2, 3, 17, 100, 1023, 1024, 1025, 5000, 9999, 16000, 16384};
        for (int to : ends) {
            x.addThrough(0, 0, 0, 0, to / 3, to);
        }
        for (int s = 0; s < ends.length; s++) {
            int tick = ends[s] / 3;
            for (int i = 0; i < x.intervals(s); i++) {
                int length = x.interval(s, i, true);
                Due.is("follows", x.interval(s, i, false), tick);
                Due.is("a power of two", Integer.bitCount(length), 1);
                Due.is("at a multiple of it", tick % length, 0);
                if (i > 0 && x.interval(s, i - 1, true) == length) {
                    Due.is("no half of a larger one", tick / length % 2, 0);
                }
                Due.is("is held", x.holders(tick, length) > 0 ? 1 : 0, 1);
                tick += length;
            }
            Due.is("the end of the life", tick, ends[s]);
        }
    }

    private static void holders() {
        SegmentTimes x = new SegmentTimes();
        Due.is("holders without segments", x.holders(0, 16384), 0);
        x.addThrough(0, 0, 0, 0, 3, 13);
        x.addThrough(0, 0, 0, 0, 4, 8);
        x.addThrough(0, 0, 0, 0, 0, 8);
        x.addThrough(0, 0, 0, 0, 4, 16);
        x.addThrough(0, 0, 0, 0, 0, 16384);
        x.addThrough(0, 0, 0, 0, 6, 6);
        Due.is("holders(4, 4)", x.holders(4, 4), 3);
        Due.is("holders(0, 8)", x.holders(0, 8), 1);
        Due.is("holders(8, 8)", x.holders(8, 8), 1);
        Due.is("holders(8, 4)", x.holders(8, 4), 1);
        Due.is("holders(3, 1)", x.holders(3, 1), 1);
        Due.is("holders(12, 1)", x.holders(12, 1), 1);
        Due.is("holders(12, 2)", x.holders(12, 2), 0);
        Due.is("holders(6, 1)", x.holders(6, 1), 0);
        Due.is("holders(0, 16384)", x.holders(0, 16384), 1);
        Due.is("holders(8192, 8192)", x.holders(8192, 8192), 0);
        Due.is("holders(16383, 1)", x.holders(16383, 1), 0);
        x.addThrough(0, 0, 0, 0, 8192, 16384);
        x.addThrough(0, 0, 0, 0, 16383, 16384);
        Due.is("holders(8192, 8192) then", x.holders(8192, 8192), 1);
        Due.is("holders(16383, 1) then", x.holders(16383, 1), 1);
    }

    private static void refusals() {
        SegmentTimes x = new SegmentTimes();
        x.add(0, 0, 0, 0);
        int[][] wrong = {{0, 0}, {0, -1}, {0, 3}, {1, 2}, {2, 4}, {-1, 1}, {-4, 4}, {16384, 1}, {8192, 16384},
            {0, 32768}, {0, Integer.MIN_VALUE}, {Integer.MIN_VALUE, 1}, {Integer.MAX_VALUE, 1}, {0, 1 << 30},
            {1 << 30, 1 << 30}, {16380, 8}};
        for (int[] w : wrong) {
            Due.refused("holders(" + w[0] + ", " + w[1] + ")", x, Due.ARGUMENT, () -> x.holders(w[0], w[1]));
        }
        Due.refused("intervals(-1)", x, Due.INDEX, () -> x.intervals(-1));
        Due.refused("intervals(1)", x, Due.INDEX, () -> x.intervals(1));
        Due.refused("interval(1, 0)", x, Due.INDEX, () -> x.interval(1, 0, true));
        Due.refused("interval(-1, 0)", x, Due.INDEX, () -> x.interval(-1, 0, false));
    }
}
