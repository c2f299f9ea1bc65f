/** Promises 10 to 13: minima, ranks, limits and overtaking. */
public final class MinimaTest {
    public static void main(String[] args) {
        minimum();
        ranked();
        below();
        overtakes();
        overtakesAsTold();
        Due.finish();
    }

    private static SegmentTimes three() {
        SegmentTimes x = new SegmentTimes();
        x.addThrough(10, 100, 20, 100, 5, 15);
        x.addThrough(0, -10, 30, 20, 10, 20);
        x.addThrough(15, 5, 15, 5, 12, 13);
        return x;
    }

    private static void minimum() {
        SegmentTimes x = three();
        Due.is("before the ranges", x.minimum(9, 5), Long.MAX_VALUE);
        Due.is("at x1 and t1", x.minimum(10, 5), 100);
        Due.is("before t1", x.minimum(10, 4), Long.MAX_VALUE);
        Due.is("at x2", x.minimum(20, 9), 100);
        Due.is("after x2", x.minimum(21, 9), Long.MAX_VALUE);
        Due.is("a lower one", x.minimum(20, 10), 10);
        Due.is("at t2 of one", x.minimum(20, 15), 10);
        Due.is("at t2 of all", x.minimum(20, 20), Long.MAX_VALUE);
        Due.is("a negative one", x.minimum(0, 19), -10);
        x.add(1000, 1000000, 255, 255);
        Due.is("the greatest one", x.minimum(255, 16383), 1255000);
        Due.is("at 16384", x.minimum(255, 16384), Long.MAX_VALUE);
        x.add(-1000, -1000000, 255, 255);
        Due.is("the least one", x.minimum(255, 0), -1255000);
        wrongPlaces(x, 0);
    }

    private static void ranked() {
        SegmentTimes x = three();
        Due.is("the first", x.ranked(15, 12, 0), 1);
        Due.is("equal values by number", x.ranked(15, 12, 1), 2);
        Due.is("the last", x.ranked(15, 12, 2), 0);
        Due.is("one more", x.ranked(15, 12, 3), -1);
        Due.is("many more", x.ranked(15, 12, Integer.MAX_VALUE), -1);
        Due.is("none there", x.ranked(15, 0, 0), -1);
        Due.is("the first later", x.ranked(15, 14, 0), 1);
        Due.is("the second later", x.ranked(15, 14, 1), 0);
        x.addThrough(15, 5, 15, 5, 12, 13);
        Due.is("a third equal one", x.ranked(15, 12, 2), 3);
        Due.is("after the equal ones", x.ranked(15, 12, 3), 0);
        x.addThrough(15, 4, 15, 4, 12, 13);
        Due.is("lower by 1, with a greater number", x.ranked(15, 12, 0), 4);
        Due.is("the one above it", x.ranked(15, 12, 1), 1);
        Due.refused("ranked with place -1", x, Due.ARGUMENT, () -> x.ranked(0, 0, -1));
        Due.refused("ranked with least place", x, Due.ARGUMENT, () -> x.ranked(0, 0, Integer.MIN_VALUE));
        wrongPlaces(x, 1);
    }

    private static void below() {
        SegmentTimes x = three();
        Due.is("below all", x.below(15, 12, 5), 0);
        Due.is("above two", x.below(15, 12, 6), 2);
        Due.is("at the third", x.below(15, 12, 100), 2);
        Due.is("above the third", x.below(15, 12, 101), 3);
        Due.is("the greatest limit", x.below(15, 12, Long.MAX_VALUE), 3);
        Due.is("the least limit", x.below(15, 12, Long.MIN_VALUE), 0);
        Due.is("a limit wider than int", x.below(15, 12, 1L << 32), 3);
        Due.is("a limit wider than int below", x.below(15, 12, -(1L << 32)), 0);
        Due.is("none there", x.below(15, 20, Long.MAX_VALUE), 0);
        wrongPlaces(x, 2);
    }

    private static void wrongPlaces(SegmentTimes x, int kind) {
        int[][] wrong = {{-1, 0}, {256, 0}, {0, -1}, {0, 16385}, {Integer.MIN_VALUE, 0}, {0, Integer.MAX_VALUE}};
        for (int[] w : wrong) {
            Due.refused("kind " + kind + " at " + w[0] + ", " + w[1], x, Due.ARGUMENT, () -> {
                switch (kind) {
                    case 0: return x.minimum(w[0], w[1]);
                    case 1: return x.ranked(w[0], w[1], 0);
                    default: return x.below(w[0], w[1], 0);
                }
            });
        }
    }

    private static void overtakes() {
        SegmentTimes x = new SegmentTimes();
        x.add(1, 0, 0, 20);
        x.add(-1, 20, 5, 30);
        x.add(1, 0, 0, 20);
        x.addThrough(21, 0, 40, 0, 0, 0);
        x.add(0, 7, 18, 25);
        Due.is("equal at 10, below at 11", x.overtakes(0, 1), 11);
        Due.is("from the common range on", x.overtakes(1, 0), 5);
        Due.is("equal everywhere", x.overtakes(0, 2), -1);
        Due.is("itself", x.overtakes(0, 0), -1);
        Due.is("no common range", x.overtakes(0, 3), -1);
        Due.is("whatever the lives", x.overtakes(1, 3), -1);
        Due.is("at the start of the common range", x.overtakes(0, 4), 18);
        Due.is("never above", x.overtakes(4, 0), -1);
        Due.is("only after the common range", x.overtakes(4, 1), 18);
        x.pass(5);
        x.end(0);
        Due.is("whatever the lives, after the end", x.overtakes(0, 1), 11);
        x.addThrough(25, 3, 50, -22, 9, 9);
        Due.is("a life without ticks", x.overtakes(3, 5), 29);
        x.addThrough(20, 9, 29, 0, 0, 0);
        Due.is("equal at the last common position", x.overtakes(3, 6), -1);
        x.addThrough(20, 8, 29, -1, 0, 0);
        Due.is("below at the last common position", x.overtakes(3, 7), 29);
        Due.refused("overtakes(0, 8)", x, Due.INDEX, () -> x.overtakes(0, 8));
        Due.refused("overtakes(8, 0)", x, Due.INDEX, () -> x.overtakes(8, 0));
        Due.refused("overtakes(-1, 0)", x, Due.INDEX, () -> x.overtakes(-1, 0));
        Due.refused("overtakes(0, -1)", x, Due.INDEX, () -> x.overtakes(0, -1));
    }

    /** All pairs of some lines, position by position; an object for each first line keeps within its calls. */
    private static void overtakesAsTold() {
        int[] slopes = {-1000, -7, -3, -1, 0, 1, 2, 5, 1000};
        int[][] lines = new int[36][];
        for (int i = 0; i < 36; i++) {
            lines[i] = new int[] {slopes[i % 9], (i * 37) % 50 - 25, (i * 11) % 60, 60 + i % 4};
        }
        for (int first = 0; first < 36; first++) {
            SegmentTimes x = new SegmentTimes();
            for (int[] line : lines) {
                x.add(line[0], line[1], line[2], line[3]);
            }
            for (int second = 0; second < 36; second++) {
                Due.is("overtakes(" + first + ", " + second + ")", x.overtakes(first, second),
                        overtaking(lines[first], lines[second]));
            }
        }
    }

    private static int overtaking(int[] first, int[] second) {
        for (int p = Math.max(first[2], second[2]); p <= Math.min(first[3], second[3]); p++) {
            if (second[0] * p + second[1] < first[0] * p + first[1]) {
                return p;
            }
        }
        return -1;
    }
}
