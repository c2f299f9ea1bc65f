/** Promises 24 to 26, and their words in the Description: each sentence that names an edge. */
public final class DyadicEdgesTest {
    public static void main(String[] args) {
        segmentRanges();
        lifeWithoutTicks();
        lifeOfOneTick();
        wholeAndHalfLives();
        longestDivision();
        intervalRanges();
        dyadicIntervals();
        lengthsThatAreNone();
        startsThatAreNone();
        holdersFromNoneToAll();
        holdersOfTheDivisionsAlone();
        nothingIsSaved();
        Due.finish();
    }

    /** "if there is no such segment" */
    private static void segmentRanges() {
        Edge.range("intervals", Edge::rich, 0, 2, Due.INDEX, (x, v) -> x.intervals(v));
        Edge.range("intervals in a full store", Edge::full, 0, 39, Due.INDEX, (x, v) -> x.intervals(v));
        Edge.refused("intervals(0) in an empty store", SegmentTimes::new, Due.INDEX, x -> x.intervals(0));
        for (boolean length : new boolean[] {false, true}) {
            Edge.range("interval, segment", Edge::rich, 0, 2, Due.INDEX, (x, v) -> x.interval(v, 0, length));
            Edge.range("interval, segment in a full store", Edge::full, 0, 39, Due.INDEX,
                    (x, v) -> x.interval(v, 0, length));
            Edge.refused("interval(0, 0) in an empty store", SegmentTimes::new, Due.INDEX,
                    x -> x.interval(0, 0, length));
        }
    }

    private static SegmentTimes lived(int t1, int t2) {
        SegmentTimes x = new SegmentTimes();
        x.addThrough(0, 0, 0, 0, t1, t2);
        x.pass(1);
        x.mark();
        return x;
    }

    private static void division(int t1, int t2, int... startsAndLengths) {
        SegmentTimes x = lived(t1, t2);
        int count = startsAndLengths.length / 2;
        String told = " of " + t1 + " to " + t2;
        Due.is("intervals" + told, x.intervals(0), count);
        for (int i = 0; i < count; i++) {
            int start = startsAndLengths[2 * i];
            int length = startsAndLengths[2 * i + 1];
            Due.is("start of interval " + i + told, x.interval(0, i, false), start);
            Due.is("length of interval " + i + told, x.interval(0, i, true), length);
            Due.is("holders of interval " + i + told, x.holders(start, length), 1);
        }
        for (boolean length : new boolean[] {false, true}) {
            Due.refused("the interval after the last" + told, x, Due.INDEX, () -> x.interval(0, count, length));
            Due.refused("the interval before the first" + told, x, Due.INDEX, () -> x.interval(0, -1, length));
        }
    }

    /** "A life without ticks has no intervals." */
    private static void lifeWithoutTicks() {
        for (int t : new int[] {0, 1, 8192, 16383, 16384}) {
            division(t, t);
            Edge.leaves("intervals of no ticks", () -> lived(t, t), 0, x -> x.intervals(0));
            for (int interval : new int[] {0, 1, -1, Edge.LEAST, Edge.MOST}) {
                Edge.refused("interval of no ticks", () -> lived(t, t), Due.INDEX,
                        x -> x.interval(0, interval, true));
            }
        }
    }

    private static void lifeOfOneTick() {
        for (int t : new int[] {0, 1, 2, 8191, 8192, 16382, 16383}) {
            division(t, t + 1, t, 1);
        }
    }

    private static void wholeAndHalfLives() {
        division(0, 16384, 0, 16384);
        division(0, 8192, 0, 8192);
        division(8192, 16384, 8192, 8192);
        division(4096, 12288, 4096, 4096, 8192, 4096);
        division(0, 2, 0, 2);
        division(1, 3, 1, 1, 2, 1);
        division(1, 4, 1, 1, 2, 2);
        division(0, 3, 0, 2, 2, 1);
        division(16382, 16384, 16382, 2);
        division(16381, 16384, 16381, 1, 16382, 2);
        division(8191, 8193, 8191, 1, 8192, 1);
    }

    /** The most intervals that a life can have are 26. */
    private static void longestDivision() {
        int[] from1 = new int[28];
        for (int j = 0; j < 14; j++) {
            from1[2 * j] = 1 << j;
            from1[2 * j + 1] = 1 << j;
        }
        division(1, 16384, from1);
        int[] upTo16383 = new int[28];
        for (int j = 0; j < 14; j++) {
            upTo16383[2 * j] = 16384 - (16384 >> j);
            upTo16383[2 * j + 1] = 8192 >> j;
        }
        division(0, 16383, upTo16383);
        int[] both = new int[52];
        System.arraycopy(from1, 0, both, 0, 26);
        System.arraycopy(upTo16383, 2, both, 26, 26);
        division(1, 16383, both);
    }

    /** "index of the interval, from 0" */
    private static void intervalRanges() {
        for (boolean length : new boolean[] {false, true}) {
            Edge.range("interval, one of one", () -> lived(0, 16384), 0, 0, Due.INDEX,
                    (x, v) -> x.interval(0, v, length));
            Edge.range("interval, one of 26", () -> lived(1, 16383), 0, 25, Due.INDEX,
                    (x, v) -> x.interval(0, v, length));
            Edge.refused("interval, both wrong", Edge::rich, Due.INDEX, x -> x.interval(3, -1, length));
        }
    }

    /** "from k * 2^j to (k + 1) * 2^j - 1, for whole numbers k and j, 0 or greater, within 0 to 16383" */
    private static void dyadicIntervals() {
        for (int j = 0; j <= 14; j++) {
            int length = 1 << j;
            Edge.taken("holders at 0 of " + length, Edge::rich, x -> x.holders(0, length));
            Edge.taken("holders at the end of " + length, Edge::rich, x -> x.holders(16384 - length, length));
            Edge.refused("holders at 16384 of " + length, Edge::rich, Due.ARGUMENT, x -> x.holders(16384, length));
            Edge.refused("holders before 0 of " + length, Edge::rich, Due.ARGUMENT, x -> x.holders(-length, length));
            if (j > 0) {
                Edge.refused("holders at 1 of " + length, Edge::rich, Due.ARGUMENT, x -> x.holders(1, length));
                Edge.refused("holders at a half of " + length, Edge::rich, Due.ARGUMENT,
                        x -> x.holders(length / 2, length));
                Edge.refused("holders over the end of " + length, Edge::rich, Due.ARGUMENT,
                        x -> x.holders(16384 - length / 2, length));
                Edge.refused("holders one before a start of " + length, Edge::rich, Due.ARGUMENT,
                        x -> x.holders(16383 - length, length));
            }
        }
        Edge.range("holders, start of one tick", Edge::rich, 0, 16383, Due.ARGUMENT, (x, v) -> x.holders(v, 1));
        Edge.range("holders, start of all ticks", Edge::rich, 0, 0, Due.ARGUMENT, (x, v) -> x.holders(v, 16384));
    }

    private static void lengthsThatAreNone() {
        int[] wrong = {0, -1, -2, 3, 5, 6, 7, 9, 12, 1000, 8191, 8193, 16383, 16385, 32768, 1 << 20, 1 << 30,
            Edge.LEAST, Edge.MOST};
        for (int length : wrong) {
            for (Edge.Maker maker : new Edge.Maker[] {SegmentTimes::new, Edge::rich, Edge::full}) {
                Edge.refused("holders(0, " + length + ")", maker, Due.ARGUMENT, x -> x.holders(0, length));
            }
            Edge.refused("holders of itself, " + length, Edge::rich, Due.ARGUMENT, x -> x.holders(length, length));
        }
    }

    private static void startsThatAreNone() {
        for (int start : new int[] {-1, -16384, 16384, 16385, 32768, 1 << 30, Edge.LEAST, Edge.MOST}) {
            for (int length : new int[] {1, 2, 16384, 1 << 30, Edge.LEAST, Edge.MOST}) {
                Edge.refused("holders(" + start + ", " + length + ")", Edge::rich, Due.ARGUMENT,
                        x -> x.holders(start, length));
            }
        }
    }

    private static void holdersFromNoneToAll() {
        Edge.leaves("holders of an empty store", SegmentTimes::new, 0, x -> x.holders(16383, 1));
        Edge.leaves("holders of a full store", () -> Edge.withSegments(40), 40, x -> x.holders(0, 16384));
        Edge.leaves("the half of a whole is not held", () -> Edge.withSegments(40), 0, x -> x.holders(0, 8192));
        Edge.leaves("the last tick of a whole is not held", () -> Edge.withSegments(40), 0, x -> x.holders(16383, 1));
        SegmentTimes x = Edge.withSegments(40);
        x.pass(1);
        for (int i = 0; i < 39; i++) {
            x.end(i);
        }
        Due.is("those that lived one tick", x.holders(0, 1), 39);
        Due.is("the one that lives on", x.holders(0, 16384), 1);
    }

    /** Over all dyadic intervals, the holders are as many as the divisions have intervals. */
    private static void holdersOfTheDivisionsAlone() {
        int[][] lives = {{0, 16384}, {1, 16383}, {3, 13}, {9, 9}, {8191, 8193}, {100, 16000}};
        int due = 0;
        int held = 0;
        int asked = 0;
        SegmentTimes x = withLives(lives);
        for (int i = 0; i < lives.length; i++) {
            due += x.intervals(i);
        }
        for (int length = 1; length <= 16384; length *= 2) {
            for (int start = 0; start < 16384; start += length) {
                if (asked % 500 == 0) {
                    x = withLives(lives);
                }
                asked++;
                held += x.holders(start, length);
            }
        }
        Due.is("all dyadic intervals", asked, 32767);
        Due.is("all that are held", held, due);
    }

    private static SegmentTimes withLives(int[][] lives) {
        SegmentTimes x = new SegmentTimes();
        for (int[] life : lives) {
            x.addThrough(0, 0, 0, 0, life[0], life[1]);
        }
        return x;
    }

    private static void nothingIsSaved() {
        StateEdges.savesNothing("intervals", x -> x.intervals(0));
        StateEdges.savesNothing("interval", x -> x.interval(0, 0, true));
        StateEdges.savesNothing("holders", x -> x.holders(0, 16384));
    }
}
