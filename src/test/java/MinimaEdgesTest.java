/** Promises 10 to 13, and their words in the Description: each sentence that names an edge. */
public final class MinimaEdgesTest {
    private static final long NO_MINIMUM = Long.MAX_VALUE;

    public static void main(String[] args) {
        placeRanges();
        emptyStore();
        minimumAtTheEdgesOfARange();
        minimumAtTheEdgesOfALife();
        minimumOfTheWidestValues();
        rankedRanges();
        rankedPlaces();
        rankedEqualValues();
        belowLimits();
        overtakesRanges();
        overtakesAtTheEdgesOfTheRanges();
        overtakesEqualValues();
        overtakesTheWidestLines();
        overtakesWhateverTheLives();
        nothingIsSaved();
        Due.finish();
    }

    /** "x: 0 to 255", "t: 0 to 16384" */
    private static void placeRanges() {
        for (Edge.Maker maker : new Edge.Maker[] {SegmentTimes::new, Edge::rich, Edge::full}) {
            Edge.range("minimum, x", maker, 0, 255, Due.ARGUMENT, (x, v) -> x.minimum(v, 0));
            Edge.range("minimum, t", maker, 0, 16384, Due.ARGUMENT, (x, v) -> x.minimum(0, v));
            Edge.range("ranked, x", maker, 0, 255, Due.ARGUMENT, (x, v) -> x.ranked(v, 0, 0));
            Edge.range("ranked, t", maker, 0, 16384, Due.ARGUMENT, (x, v) -> x.ranked(0, v, 0));
            Edge.range("below, x", maker, 0, 255, Due.ARGUMENT, (x, v) -> x.below(v, 0, 0));
            Edge.range("below, t", maker, 0, 16384, Due.ARGUMENT, (x, v) -> x.below(0, v, 0));
        }
        Edge.range("minimum, x at 16384", Edge::rich, 0, 255, Due.ARGUMENT, (x, v) -> x.minimum(v, 16384));
        Edge.range("minimum, t at 255", Edge::rich, 0, 16384, Due.ARGUMENT, (x, v) -> x.minimum(255, v));
    }

    /** "Long.MAX_VALUE if no segment is there", "NONE if fewer segments are there" */
    private static void emptyStore() {
        for (int position : new int[] {0, 255}) {
            for (int tick : new int[] {0, 16383, 16384}) {
                Edge.leaves("minimum, empty", SegmentTimes::new, NO_MINIMUM, x -> x.minimum(position, tick));
                Edge.leaves("ranked, empty", SegmentTimes::new, SegmentTimes.NONE, x -> x.ranked(position, tick, 0));
                Edge.leaves("below, empty", SegmentTimes::new, 0, x -> x.below(position, tick, Long.MAX_VALUE));
            }
            Edge.leaves("minimum at 16384", Edge::full, NO_MINIMUM, x -> x.minimum(position, 16384));
            Edge.leaves("ranked at 16384", Edge::full, SegmentTimes.NONE, x -> x.ranked(position, 16384, 0));
            Edge.leaves("below at 16384", Edge::full, 0, x -> x.below(position, 16384, Long.MAX_VALUE));
            Edge.leaves("minimum at 16383", Edge::full, 7, x -> x.minimum(position, 16383));
            Edge.leaves("ranked at 16383", Edge::full, 0, x -> x.ranked(position, 16383, 0));
            Edge.leaves("below at 16383", Edge::full, 40, x -> x.below(position, 16383, Long.MAX_VALUE));
        }
    }

    private static SegmentTimes one(int x1, int x2, int t1, int t2) {
        SegmentTimes x = new SegmentTimes();
        x.addThrough(x1, 6, x2, 6, t1, t2);
        return x;
    }

    private static void there(SegmentTimes x, int position, int tick, boolean due) {
        String told = " at " + position + ", " + tick;
        Due.is("minimum" + told, x.minimum(position, tick), due ? 6 : NO_MINIMUM);
        Due.is("ranked" + told, x.ranked(position, tick, 0), due ? 0 : SegmentTimes.NONE);
        Due.is("ranked, place 1" + told, x.ranked(position, tick, 1), SegmentTimes.NONE);
        Due.is("below" + told, x.below(position, tick, 7), due ? 1 : 0);
    }

    /** "a range of positions from x1 to x2 (both belong to it), 0 to 255" */
    private static void minimumAtTheEdgesOfARange() {
        int[][] ranges = {{0, 255}, {0, 0}, {255, 255}, {1, 254}, {7, 7}, {7, 8}};
        for (int[] range : ranges) {
            SegmentTimes x = one(range[0], range[1], 0, 16384);
            for (int p = Math.max(0, range[0] - 1); p <= Math.min(255, range[0] + 1); p++) {
                there(x, p, 0, p >= range[0] && p <= range[1]);
            }
            for (int p = Math.max(0, range[1] - 1); p <= Math.min(255, range[1] + 1); p++) {
                there(x, p, 0, p >= range[0] && p <= range[1]);
            }
        }
    }

    /** "live at a tick t if t1 is at most t, and t is less than t2"; nothing is live at 16384 */
    private static void minimumAtTheEdgesOfALife() {
        int[][] lives = {{0, 16384}, {0, 1}, {1, 2}, {16383, 16384}, {16384, 16384}, {0, 0}, {9, 9}, {9, 12}};
        for (int[] life : lives) {
            SegmentTimes x = one(3, 3, life[0], life[1]);
            for (int t = Math.max(0, life[0] - 1); t <= Math.min(16384, life[0] + 1); t++) {
                there(x, 3, t, t >= life[0] && t < life[1]);
            }
            for (int t = Math.max(0, life[1] - 1); t <= Math.min(16384, life[1] + 1); t++) {
                there(x, 3, t, t >= life[0] && t < life[1]);
            }
        }
    }

    private static void minimumOfTheWidestValues() {
        SegmentTimes x = new SegmentTimes();
        x.add(1000, 1000000, 0, 255);
        Due.is("the greatest value", x.minimum(255, 0), 1255000);
        Due.is("the greatest value at 0", x.minimum(0, 0), 1000000);
        Due.is("none below the greatest value", x.below(255, 0, 1255000), 0);
        Due.is("one below one more", x.below(255, 0, 1255001), 1);
        x.add(-1000, -1000000, 0, 255);
        Due.is("the least value", x.minimum(255, 0), -1255000);
        Due.is("the least value at 0", x.minimum(0, 0), -1000000);
        Due.is("none below the least value", x.below(255, 0, -1255000), 0);
        Due.is("one below one more", x.below(255, 0, -1254999), 1);
        Due.is("the least one first", x.ranked(255, 0, 0), 1);
        Due.is("the greatest one last", x.ranked(255, 0, 1), 0);
    }

    /** "or place is negative": there is no upper end */
    private static void rankedRanges() {
        for (Edge.Maker maker : new Edge.Maker[] {SegmentTimes::new, Edge::rich, Edge::full}) {
            for (int place : new int[] {-1, -2, Edge.LEAST}) {
                Edge.refused("ranked, place " + place, maker, Due.ARGUMENT, x -> x.ranked(0, 0, place));
            }
            Edge.leaves("ranked, the greatest place", maker, SegmentTimes.NONE, x -> x.ranked(0, 0, Edge.MOST));
            Edge.leaves("ranked, place 40", maker, SegmentTimes.NONE, x -> x.ranked(0, 0, 40));
        }
        Edge.refused("ranked, place -1 where none is there", Edge::rich, Due.ARGUMENT, x -> x.ranked(255, 16384, -1));
    }

    /** "its place, from 0": place 39 is the last one of 40 */
    private static void rankedPlaces() {
        SegmentTimes x = new SegmentTimes();
        for (int i = 0; i < 40; i++) {
            x.add(0, 39 - i, 100, 200);
        }
        for (int place = 0; place < 40; place++) {
            Due.is("ranked, place " + place, x.ranked(100, 0, place), 39 - place);
            Due.is("below " + place, x.below(200, 0, place), place);
        }
        Due.is("ranked, place 40", x.ranked(100, 0, 40), SegmentTimes.NONE);
        Due.is("below 40", x.below(200, 0, 40), 40);
        Due.is("ranked, place 0 where none is there", x.ranked(99, 0, 0), SegmentTimes.NONE);
        Due.is("ranked, place 0 where none is there", x.ranked(201, 0, 0), SegmentTimes.NONE);
    }

    /** "equal values by their numbers, in ascending order" */
    private static void rankedEqualValues() {
        SegmentTimes x = Edge.withSegments(40);
        for (int place = 0; place < 40; place++) {
            Due.is("ranked among 40 equal ones, place " + place, x.ranked(255, 0, place), place);
        }
        Due.is("ranked among 40 equal ones, place 40", x.ranked(255, 0, 40), SegmentTimes.NONE);
        SegmentTimes y = new SegmentTimes();
        y.add(1, 0, 0, 255);
        y.add(-1, 20, 0, 255);
        y.add(0, 10, 0, 255);
        int[][] due = {{0, 2, 1}, {0, 1, 2}, {1, 2, 0}};
        for (int i = 0; i < 3; i++) {
            for (int place = 0; place < 3; place++) {
                Due.is("ranked at " + (9 + i), y.ranked(9 + i, 0, place), due[i][place]);
            }
        }
    }

    /** "with a value below a limit": any long is a limit, and an equal value is not below it */
    private static void belowLimits() {
        SegmentTimes x = new SegmentTimes();
        x.add(0, 5, 0, 255);
        x.add(0, 0, 0, 255);
        x.add(0, -5, 0, 255);
        long[] limits = {Long.MIN_VALUE, -5, -4, 0, 1, 5, 6, Long.MAX_VALUE, 1L << 32, -(1L << 32), (1L << 32) - 9,
            9 - (1L << 32), Integer.MAX_VALUE, Integer.MIN_VALUE, Integer.MAX_VALUE + 1L, Integer.MIN_VALUE - 1L};
        int[] due = {0, 0, 1, 1, 2, 2, 3, 3, 3, 0, 3, 0, 3, 0, 3, 0};
        for (int i = 0; i < limits.length; i++) {
            Due.is("below " + limits[i], x.below(0, 0, limits[i]), due[i]);
        }
        for (long limit : new long[] {Long.MIN_VALUE, 0, Long.MAX_VALUE}) {
            Edge.refused("below, x 256", Edge::rich, Due.ARGUMENT, y -> y.below(256, 0, limit));
            Edge.refused("below, t 16385", Edge::rich, Due.ARGUMENT, y -> y.below(0, 16385, limit));
        }
    }

    /** "if there is no such segment" */
    private static void overtakesRanges() {
        Edge.range("overtakes, first", Edge::rich, 0, 2, Due.INDEX, (x, v) -> x.overtakes(v, 0));
        Edge.range("overtakes, second", Edge::rich, 0, 2, Due.INDEX, (x, v) -> x.overtakes(0, v));
        Edge.range("overtakes, both", Edge::rich, 0, 2, Due.INDEX, (x, v) -> x.overtakes(v, v));
        Edge.range("overtakes, first in a full store", Edge::full, 0, 39, Due.INDEX, (x, v) -> x.overtakes(v, 39));
        Edge.range("overtakes, second in a full store", Edge::full, 0, 39, Due.INDEX, (x, v) -> x.overtakes(39, v));
        Edge.refused("overtakes, neither", Edge::rich, Due.INDEX, x -> x.overtakes(3, -1));
    }

    private static void overtakes(int[] first, int[] second, int due, int back) {
        SegmentTimes x = new SegmentTimes();
        x.add(first[0], first[1], first[2], first[3]);
        x.add(second[0], second[1], second[2], second[3]);
        String told = java.util.Arrays.toString(first) + " and " + java.util.Arrays.toString(second);
        Due.is("overtakes(0, 1) of " + told, x.overtakes(0, 1), due);
        Due.is("overtakes(1, 0) of " + told, x.overtakes(1, 0), back);
        Due.is("overtakes(0, 0) of " + told, x.overtakes(0, 0), SegmentTimes.NONE);
        Due.is("overtakes(1, 1) of " + told, x.overtakes(1, 1), SegmentTimes.NONE);
    }

    /** "the smallest position that belongs to the ranges of both"; "NONE if there is none" */
    private static void overtakesAtTheEdgesOfTheRanges() {
        overtakes(new int[] {0, 1, 0, 255}, new int[] {0, 0, 0, 255}, 0, -1);
        overtakes(new int[] {0, 1, 0, 255}, new int[] {0, 0, 255, 255}, 255, -1);
        overtakes(new int[] {0, 1, 0, 0}, new int[] {0, 0, 0, 255}, 0, -1);
        overtakes(new int[] {0, 1, 0, 9}, new int[] {0, 0, 9, 20}, 9, -1);
        overtakes(new int[] {0, 1, 0, 9}, new int[] {0, 0, 10, 20}, -1, -1);
        overtakes(new int[] {0, 1, 10, 20}, new int[] {0, 0, 0, 10}, 10, -1);
        overtakes(new int[] {0, 1, 11, 20}, new int[] {0, 0, 0, 10}, -1, -1);
        overtakes(new int[] {0, 0, 0, 255}, new int[] {-1, 254, 0, 255}, 255, 0);
        overtakes(new int[] {0, 0, 0, 255}, new int[] {-1, 255, 0, 255}, -1, 0);
        overtakes(new int[] {0, 0, 0, 254}, new int[] {-1, 254, 0, 255}, -1, 0);
        overtakes(new int[] {0, 0, 0, 255}, new int[] {1, -1, 0, 255}, 0, 2);
        overtakes(new int[] {0, 0, 0, 255}, new int[] {1, -1, 1, 255}, -1, 2);
        overtakes(new int[] {0, 0, 5, 9}, new int[] {2, -17, 0, 255}, 5, 9);
        overtakes(new int[] {0, 0, 5, 8}, new int[] {2, -17, 0, 255}, 5, -1);
    }

    /** "has a smaller value": an equal one is not smaller */
    private static void overtakesEqualValues() {
        overtakes(new int[] {0, 0, 0, 255}, new int[] {0, 0, 0, 255}, -1, -1);
        overtakes(new int[] {7, -9, 3, 30}, new int[] {7, -9, 0, 255}, -1, -1);
        overtakes(new int[] {1, 0, 0, 20}, new int[] {-1, 20, 0, 20}, 11, 0);
        overtakes(new int[] {1, 0, 10, 20}, new int[] {-1, 20, 10, 20}, 11, -1);
        overtakes(new int[] {1, 0, 0, 10}, new int[] {-1, 20, 0, 10}, -1, 0);
        overtakes(new int[] {0, 0, 0, 20}, new int[] {-3, 9, 0, 20}, 4, 0);
        overtakes(new int[] {0, 0, 0, 20}, new int[] {-3, 10, 0, 20}, 4, 0);
        overtakes(new int[] {0, 0, 0, 20}, new int[] {-3, 11, 0, 20}, 4, 0);
        overtakes(new int[] {0, 0, 0, 20}, new int[] {-3, 12, 0, 20}, 5, 0);
        overtakes(new int[] {5, 5, 8, 8}, new int[] {-5, 85, 8, 8}, -1, -1);
        overtakes(new int[] {5, 5, 8, 8}, new int[] {-5, 84, 8, 8}, 8, -1);
    }

    private static void overtakesTheWidestLines() {
        overtakes(new int[] {1000, 1000000, 0, 255}, new int[] {-1000, -1000000, 0, 255}, 0, -1);
        overtakes(new int[] {1000, -1000000, 0, 255}, new int[] {-1000, 1000000, 0, 255}, -1, 0);
        overtakes(new int[] {1000, 0, 0, 255}, new int[] {-1000, 509999, 0, 255}, 255, 0);
        overtakes(new int[] {1000, 0, 0, 255}, new int[] {-1000, 510000, 0, 255}, -1, 0);
        overtakes(new int[] {-1000, 1000000, 255, 255}, new int[] {1000, 490000, 255, 255}, -1, -1);
        overtakes(new int[] {-1000, 1000000, 255, 255}, new int[] {1000, 489999, 255, 255}, 255, -1);
    }

    /** "whatever their lives are" */
    private static void overtakesWhateverTheLives() {
        SegmentTimes x = new SegmentTimes();
        x.addThrough(0, 1, 9, 1, 0, 0);
        x.addThrough(4, 0, 9, 0, 16384, 16384);
        x.addThrough(0, 2, 9, 2, 3, 5);
        Due.is("of two without a life", x.overtakes(0, 1), 4);
        Due.is("of two that never meet", x.overtakes(2, 0), 0);
        x.pass(9);
        Due.is("when the life is over", x.overtakes(2, 1), 4);
    }

    private static void nothingIsSaved() {
        StateEdges.savesNothing("minimum", x -> x.minimum(0, 0));
        StateEdges.savesNothing("ranked", x -> x.ranked(0, 0, 0));
        StateEdges.savesNothing("below", x -> x.below(0, 0, 0));
        StateEdges.savesNothing("overtakes", x -> x.overtakes(0, 1));
    }
}
