/** Promises 20 to 23, and their words in the Description: each sentence that names an edge. */
public final class OverTimeEdgesTest {
    private static final int NONE = SegmentTimes.NONE;
    private static final long NO_MINIMUM = Long.MAX_VALUE;

    public static void main(String[] args) {
        positionRanges();
        tickRanges();
        emptyStore();
        changesAtTheEdges();
        changesFromOneSegmentToAnother();
        changesThatAreNone();
        nextChangeAtTheEdges();
        overTimeAtTheEdges();
        overTimeOfTheWidestValues();
        leadsRanges();
        leadsFromNoneToAll();
        nothingIsSaved();
        Due.finish();
    }

    /** "x: 0 to 255" */
    private static void positionRanges() {
        for (Edge.Maker maker : new Edge.Maker[] {SegmentTimes::new, Edge::rich, Edge::full}) {
            Edge.range("changes, x", maker, 0, 255, Due.ARGUMENT, (x, v) -> x.changes(v, 0, 16384));
            Edge.range("nextChange, x", maker, 0, 255, Due.ARGUMENT, (x, v) -> x.nextChange(v, 0));
            Edge.range("overTime, x", maker, 0, 255, Due.ARGUMENT, (x, v) -> x.overTime(v, 0, 16384, true));
            Edge.range("overTime, x", maker, 0, 255, Due.ARGUMENT, (x, v) -> x.overTime(v, 0, 16384, false));
        }
        Edge.range("leads, x", Edge::rich, 0, 255, Due.ARGUMENT, (x, v) -> x.leads(2, v));
        Edge.range("leads, x in a full store", Edge::full, 0, 255, Due.ARGUMENT, (x, v) -> x.leads(39, v));
    }

    /** "from: 0 to to", "to: from to 16384", "t: 0 to 16384" */
    private static void tickRanges() {
        for (int to : new int[] {0, 100, 16384}) {
            Edge.range("changes, from up to " + to, Edge::rich, 0, to, Due.ARGUMENT, (x, v) -> x.changes(5, v, to));
            Edge.range("overTime, from up to " + to, Edge::rich, 0, to, Due.ARGUMENT,
                    (x, v) -> x.overTime(5, v, to, true));
        }
        for (int from : new int[] {0, 100, 16384}) {
            Edge.range("changes, to from " + from, Edge::rich, from, 16384, Due.ARGUMENT,
                    (x, v) -> x.changes(5, from, v));
            Edge.range("overTime, to from " + from, Edge::rich, from, 16384, Due.ARGUMENT,
                    (x, v) -> x.overTime(5, from, v, false));
        }
        int[][] wrong = {{-1, -1}, {16385, 16385}, {-1, 16385}, {Edge.LEAST, Edge.MOST}, {Edge.MOST, Edge.LEAST}};
        for (int[] w : wrong) {
            Edge.refused("changes of a wrong span", Edge::rich, Due.ARGUMENT, x -> x.changes(5, w[0], w[1]));
            Edge.refused("overTime of a wrong span", Edge::rich, Due.ARGUMENT, x -> x.overTime(5, w[0], w[1], true));
        }
        Edge.range("nextChange, t", SegmentTimes::new, 0, 16384, Due.ARGUMENT, (x, v) -> x.nextChange(5, v));
        Edge.range("nextChange, t", Edge::rich, 0, 16384, Due.ARGUMENT, (x, v) -> x.nextChange(5, v));
        Edge.range("nextChange, t in a full store", Edge::full, 0, 16384, Due.ARGUMENT, (x, v) -> x.nextChange(5, v));
    }

    /** "NONE if there is none up to 16384", "Long.MAX_VALUE if there is none" */
    private static void emptyStore() {
        for (int position : new int[] {0, 255}) {
            Edge.leaves("changes, empty", SegmentTimes::new, 0, x -> x.changes(position, 0, 16384));
            for (int tick : new int[] {0, 16383, 16384}) {
                Edge.leaves("nextChange, empty", SegmentTimes::new, NONE, x -> x.nextChange(position, tick));
                Edge.leaves("changes, empty", SegmentTimes::new, 0, x -> x.changes(position, tick, 16384));
                for (boolean greatest : new boolean[] {false, true}) {
                    Edge.leaves("overTime, empty", SegmentTimes::new, NO_MINIMUM,
                            x -> x.overTime(position, tick, 16384, greatest));
                    Edge.leaves("overTime, empty", SegmentTimes::new, NO_MINIMUM,
                            x -> x.overTime(position, 0, tick, greatest));
                }
            }
        }
    }

    private static SegmentTimes lived(int... lives) {
        SegmentTimes x = new SegmentTimes();
        for (int i = 0; i < lives.length; i += 2) {
            x.addThrough(7, 50 - i, 7, 50 - i, lives[i], lives[i + 1]);
        }
        return x;
    }

    /** "the ticks t after from, up to and including to" */
    private static void changesAtTheEdges() {
        SegmentTimes x = lived(0, 1);
        Due.is("a start at 0 is no change after 0", x.changes(7, 0, 0), 0);
        Due.is("the end at 1", x.changes(7, 0, 1), 1);
        Due.is("the end at 1 is none after 1", x.changes(7, 1, 16384), 0);
        SegmentTimes y = lived(1, 16384);
        Due.is("a start at 1", y.changes(7, 0, 1), 1);
        Due.is("an end at 16384", y.changes(7, 16383, 16384), 1);
        Due.is("both", y.changes(7, 0, 16384), 2);
        Due.is("neither", y.changes(7, 1, 16383), 0);
        SegmentTimes z = lived(16383, 16384);
        Due.is("a life of the last tick", z.changes(7, 0, 16384), 2);
        Due.is("its start", z.changes(7, 16382, 16383), 1);
        Due.is("its end", z.changes(7, 16383, 16384), 1);
        Due.is("before it", z.changes(7, 0, 16382), 0);
        Due.is("after it", z.changes(7, 16384, 16384), 0);
        for (int t : new int[] {0, 1, 16382, 16383, 16384}) {
            Due.is("no ticks from " + t + " to " + t, z.changes(7, t, t), 0);
        }
        for (int p : new int[] {6, 8}) {
            Due.is("beside the range", z.changes(p, 0, 16384), 0);
            Due.is("beside the range", z.nextChange(p, 0), NONE);
        }
    }

    /** "from none to a segment, and from a segment to none, is a change, too" */
    private static void changesFromOneSegmentToAnother() {
        SegmentTimes x = lived(10, 20, 12, 14, 14, 16, 30, 31);
        Due.is("all changes", x.changes(7, 0, 16384), 7);
        int[] ticks = {10, 12, 14, 16, 20, 30, 31};
        for (int i = 0; i < ticks.length; i++) {
            Due.is("the tick itself", x.changes(7, ticks[i] - 1, ticks[i]), 1);
            Due.is("up to it", x.changes(7, 0, ticks[i]), i + 1);
            Due.is("up to the one before", x.changes(7, 0, ticks[i] - 1), i);
            Due.is("after it", x.changes(7, ticks[i], 16384), 6 - i);
            Due.is("nextChange before it", x.nextChange(7, ticks[i] - 1), ticks[i]);
            Due.is("nextChange from it", x.nextChange(7, ticks[i]), i == 6 ? NONE : ticks[i + 1]);
        }
    }

    /** A start or an end that leaves the first one as it is is no change. */
    private static void changesThatAreNone() {
        SegmentTimes x = new SegmentTimes();
        x.addThrough(7, 0, 7, 0, 10, 20);
        x.addThrough(7, 0, 7, 0, 5, 15);
        x.addThrough(7, 1, 7, 1, 12, 20);
        x.addThrough(7, -1, 7, -1, 13, 13);
        Due.is("changes", x.changes(7, 0, 16384), 3);
        Due.is("to the second one", x.nextChange(7, 0), 5);
        Due.is("to the first one, by its number", x.nextChange(7, 5), 10);
        Due.is("to none", x.nextChange(7, 10), 20);
        SegmentTimes y = new SegmentTimes();
        y.addThrough(7, 4, 7, 4, 0, 9);
        y.addThrough(7, 4, 7, 4, 9, 16384);
        Due.is("an equal value of another segment is a change", y.nextChange(7, 0), 9);
        Due.is("and the only one before the end", y.changes(7, 0, 16383), 1);
    }

    /** "NONE if there is none up to 16384" */
    private static void nextChangeAtTheEdges() {
        SegmentTimes x = lived(0, 16384);
        Due.is("nextChange(7, 0)", x.nextChange(7, 0), 16384);
        Due.is("nextChange(7, 16383)", x.nextChange(7, 16383), 16384);
        Due.is("nextChange(7, 16384)", x.nextChange(7, 16384), NONE);
        SegmentTimes y = lived(0, 1, 16383, 16384);
        Due.is("the end of the first tick", y.nextChange(7, 0), 1);
        Due.is("the start of the last tick", y.nextChange(7, 1), 16383);
        Due.is("the end of the last tick", y.nextChange(7, 16383), 16384);
        SegmentTimes z = lived(0, 0, 16384, 16384, 9, 9);
        Due.is("lives without ticks", z.nextChange(7, 0), NONE);
        Due.is("lives without ticks", z.changes(7, 0, 16384), 0);
    }

    /** "over all ticks of the range at which a segment is there": from and to belong to it */
    private static void overTimeAtTheEdges() {
        SegmentTimes x = lived(10, 20);
        for (boolean greatest : new boolean[] {false, true}) {
            Due.is("before t1", x.overTime(7, 0, 9, greatest), NO_MINIMUM);
            Due.is("up to t1", x.overTime(7, 0, 10, greatest), 50);
            Due.is("from the last tick", x.overTime(7, 19, 16384, greatest), 50);
            Due.is("from t2", x.overTime(7, 20, 16384, greatest), NO_MINIMUM);
            Due.is("all ticks", x.overTime(7, 0, 16384, greatest), 50);
            Due.is("one tick", x.overTime(7, 10, 10, greatest), 50);
            Due.is("beside the range", x.overTime(6, 0, 16384, greatest), NO_MINIMUM);
            Due.is("beside the range", x.overTime(8, 0, 16384, greatest), NO_MINIMUM);
        }
        SegmentTimes y = new SegmentTimes();
        y.addThrough(7, 5, 7, 5, 0, 1);
        y.addThrough(7, 9, 7, 9, 16383, 16384);
        y.addThrough(7, 7, 7, 7, 0, 16384);
        Due.is("smallest, at 0", y.overTime(7, 0, 16384, false), 5);
        Due.is("smallest after 0", y.overTime(7, 1, 16384, false), 7);
        Due.is("greatest, not a value that is no minimum", y.overTime(7, 0, 16384, true), 7);
        y.end(2);
        Due.is("greatest, at 16383", y.overTime(7, 0, 16384, true), 9);
        Due.is("greatest before 16383", y.overTime(7, 0, 16382, true), 5);
        Due.is("smallest, at 16383 alone", y.overTime(7, 16383, 16383, false), 9);
        Due.is("at 16384 alone", y.overTime(7, 16384, 16384, false), NO_MINIMUM);
        Due.is("in the gap", y.overTime(7, 1, 16382, true), NO_MINIMUM);
    }

    private static void overTimeOfTheWidestValues() {
        SegmentTimes x = new SegmentTimes();
        x.add(1000, 1000000, 0, 255);
        Due.is("the greatest value", x.overTime(255, 0, 16384, true), 1255000);
        Due.is("the greatest value, smallest", x.overTime(255, 0, 16384, false), 1255000);
        x.pass(5);
        x.add(-1000, -1000000, 0, 255);
        Due.is("the least value", x.overTime(255, 0, 16384, false), -1255000);
        Due.is("the greatest minimum", x.overTime(255, 0, 16384, true), 1255000);
        Due.is("the greatest minimum below 0", x.overTime(255, 5, 16384, true), -1255000);
    }

    /** "if there is no such segment" comes before "if x is out of range". */
    private static void leadsRanges() {
        Edge.range("leads, segment", Edge::rich, 0, 2, Due.INDEX, (x, v) -> x.leads(v, 0));
        Edge.range("leads, segment in a full store", Edge::full, 0, 39, Due.INDEX, (x, v) -> x.leads(v, 255));
        for (int position : new int[] {-1, 256, Edge.LEAST, Edge.MOST}) {
            Edge.refused("no such segment first", Edge::rich, Due.INDEX, x -> x.leads(3, position));
            Edge.refused("no such segment first", Edge::rich, Due.INDEX, x -> x.leads(-1, position));
            Edge.refused("no such segment first", SegmentTimes::new, Due.INDEX, x -> x.leads(0, position));
        }
    }

    private static void leadsFromNoneToAll() {
        SegmentTimes x = Edge.withSegments(40);
        Due.is("all ticks", x.leads(0, 255), 16384);
        for (int i = 1; i < 40; i++) {
            Due.is("no tick", x.leads(i, 0), 0);
        }
        SegmentTimes y = lived(0, 1, 16383, 16384, 16384, 16384, 0, 0, 5, 9);
        int[] due = {1, 1, 0, 0, 4};
        for (int i = 0; i < due.length; i++) {
            Due.is("leads(" + i + ", 7)", y.leads(i, 7), due[i]);
            Due.is("leads(" + i + ", 6)", y.leads(i, 6), 0);
            Due.is("leads(" + i + ", 8)", y.leads(i, 8), 0);
        }
        SegmentTimes z = new SegmentTimes();
        z.addThrough(0, 1, 255, 1, 0, 16384);
        z.addThrough(0, 0, 255, 0, 0, 1);
        z.addThrough(0, 0, 255, 0, 16383, 16384);
        z.addThrough(0, 1, 255, 1, 3, 9);
        Due.is("all but the first and the last tick", z.leads(0, 255), 16382);
        Due.is("the first tick", z.leads(1, 0), 1);
        Due.is("the last tick", z.leads(2, 0), 1);
        Due.is("an equal one behind", z.leads(3, 0), 0);
    }

    private static void nothingIsSaved() {
        StateEdges.savesNothing("changes", x -> x.changes(0, 0, 16384));
        StateEdges.savesNothing("nextChange", x -> x.nextChange(0, 0));
        StateEdges.savesNothing("overTime", x -> x.overTime(0, 0, 16384, true));
        StateEdges.savesNothing("leads", x -> x.leads(0, 0));
    }
}
