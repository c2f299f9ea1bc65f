/** Promises 14 to 19, and their words in the Description: each sentence that names an edge. */
public final class EnvelopeEdgesTest {
    private static final int NONE = SegmentTimes.NONE;

    public static void main(String[] args) {
        tickRanges();
        emptyStore();
        pieceRanges();
        pieceRefusalsInOrder();
        fewestAndMostPieces();
        equalNeighbours();
        piecesAtTheEdgesOfALife();
        piecesCoverEachPositionOnce();
        sumRanges();
        sumOfPositionsWithASegment();
        sumOfTheWidestValues();
        visibleRanges();
        visibleFromNoneToAll();
        hiddenFromNoneToAllButOne();
        extremeAtTheEdges();
        extremeOfSeveral();
        nothingIsSaved();
        Due.finish();
    }

    /** "t: 0 to 16384" */
    private static void tickRanges() {
        for (Edge.Maker maker : new Edge.Maker[] {SegmentTimes::new, Edge::rich, Edge::full}) {
            Edge.range("pieces, t", maker, 0, 16384, Due.ARGUMENT, (x, v) -> x.pieces(v));
            Edge.range("piece, t", maker, 0, 16384, Due.ARGUMENT, (x, v) -> x.piece(v, 0, 0));
            Edge.range("sum, t", maker, 0, 16384, Due.ARGUMENT, (x, v) -> x.sum(v, 0, 255));
            Edge.range("hidden, t", maker, 0, 16384, Due.ARGUMENT, (x, v) -> x.hidden(v));
            Edge.range("extreme, t", maker, 0, 16384, Due.ARGUMENT, (x, v) -> x.extreme(v, true));
            Edge.range("extreme, t", maker, 0, 16384, Due.ARGUMENT, (x, v) -> x.extreme(v, false));
        }
        Edge.range("visible, t", Edge::rich, 0, 16384, Due.ARGUMENT, (x, v) -> x.visible(2, v));
        Edge.range("visible, t in a full store", Edge::full, 0, 16384, Due.ARGUMENT, (x, v) -> x.visible(39, v));
    }

    private static void onePiece(String told, Edge.Maker maker, int t) {
        Edge.leaves(told + ", pieces", maker, 1, x -> x.pieces(t));
        Edge.leaves(told + ", its first position", maker, 0, x -> x.piece(t, 0, 0));
        Edge.leaves(told + ", its last position", maker, 255, x -> x.piece(t, 0, 1));
        Edge.leaves(told + ", its segment", maker, NONE, x -> x.piece(t, 0, 2));
        Edge.refused(told + ", a second piece", maker, Due.INDEX, x -> x.piece(t, 1, 0));
        Edge.leaves(told + ", sum", maker, 0, x -> x.sum(t, 0, 255));
        Edge.leaves(told + ", hidden", maker, 0, x -> x.hidden(t));
        Edge.leaves(told + ", extreme", maker, NONE, x -> x.extreme(t, true));
        Edge.leaves(told + ", extreme", maker, NONE, x -> x.extreme(t, false));
    }

    /** "NONE if no segment is there", "NONE if no segment is live": one piece of nothing */
    private static void emptyStore() {
        onePiece("an empty store at 0", SegmentTimes::new, 0);
        onePiece("an empty store at 16383", SegmentTimes::new, 16383);
        onePiece("an empty store at 16384", SegmentTimes::new, 16384);
        onePiece("a full store at 16384", Edge::full, 16384);
        onePiece("a store at 16384", Edge::rich, 16384);
        onePiece("before all lives", () -> late(), 8);
        Edge.leaves("at the first tick of a life", () -> late(), 3, x -> x.pieces(9));
    }

    private static SegmentTimes late() {
        SegmentTimes x = new SegmentTimes();
        x.addThrough(5, 5, 6, 6, 9, 10);
        x.addThrough(0, 0, 255, 0, 0, 0);
        x.addThrough(0, 0, 255, 0, 16384, 16384);
        return x;
    }

    /** "index of the piece, from 0", "what: 0 its first position ... 2 its segment" */
    private static void pieceRanges() {
        for (int what = 0; what < 3; what++) {
            int w = what;
            Edge.range("piece, the only one", SegmentTimes::new, 0, 0, Due.INDEX, (x, v) -> x.piece(0, v, w));
            Edge.range("piece, one of two", Edge::rich, 0, 1, Due.INDEX, (x, v) -> x.piece(5, v, w));
            Edge.range("piece, one of 81", EnvelopeEdgesTest::apart, 0, 80, Due.INDEX, (x, v) -> x.piece(0, v, w));
        }
        Edge.range("piece, what", SegmentTimes::new, 0, 2, Due.ARGUMENT, (x, v) -> x.piece(0, 0, v));
        Edge.range("piece, what", Edge::rich, 0, 2, Due.ARGUMENT, (x, v) -> x.piece(5, 1, v));
        Edge.range("piece, what", EnvelopeEdgesTest::apart, 0, 2, Due.ARGUMENT, (x, v) -> x.piece(0, 80, v));
    }

    /** "if t or what is out of range" comes before "if there is no such piece". */
    private static void pieceRefusalsInOrder() {
        for (int piece : new int[] {-1, 2, Edge.LEAST, Edge.MOST}) {
            for (int wrong : new int[] {-1, Edge.LEAST, Edge.MOST}) {
                Edge.refused("a wrong tick first", Edge::rich, Due.ARGUMENT, x -> x.piece(wrong, piece, 0));
                Edge.refused("a wrong what first", Edge::rich, Due.ARGUMENT, x -> x.piece(5, piece, wrong));
            }
            Edge.refused("tick 16385 first", Edge::rich, Due.ARGUMENT, x -> x.piece(16385, piece, 0));
            Edge.refused("what 3 first", Edge::rich, Due.ARGUMENT, x -> x.piece(5, piece, 3));
            Edge.refused("no such piece", Edge::rich, Due.INDEX, x -> x.piece(5, piece, 2));
        }
    }

    /** 40 points at 1, 3, 5 ... with gaps around them. */
    private static SegmentTimes apart() {
        SegmentTimes x = new SegmentTimes();
        for (int i = 0; i < 40; i++) {
            x.add(0, i, 2 * i + 1, 2 * i + 1);
        }
        return x;
    }

    private static void piece(SegmentTimes x, int t, int piece, int first, int last, int segment) {
        String told = "piece " + piece + " at " + t;
        Due.is("first of " + told, x.piece(t, piece, 0), first);
        Due.is("last of " + told, x.piece(t, piece, 1), last);
        Due.is("segment of " + told, x.piece(t, piece, 2), segment);
    }

    /** From one piece of all positions to pieces of a single position. */
    private static void fewestAndMostPieces() {
        SegmentTimes x = apart();
        Due.is("pieces of 40 points", x.pieces(0), 81);
        for (int i = 0; i < 40; i++) {
            piece(x, 0, 2 * i, 2 * i, 2 * i, NONE);
            piece(x, 0, 2 * i + 1, 2 * i + 1, 2 * i + 1, i);
        }
        piece(x, 0, 80, 80, 255, NONE);
        SegmentTimes y = new SegmentTimes();
        y.add(0, 0, 0, 0);
        y.add(0, 0, 255, 255);
        Due.is("points at both ends", y.pieces(0), 3);
        piece(y, 0, 0, 0, 0, 0);
        piece(y, 0, 1, 1, 254, NONE);
        piece(y, 0, 2, 255, 255, 1);
        SegmentTimes z = Edge.withSegments(40);
        Due.is("pieces of 40 equal ones", z.pieces(0), 1);
        piece(z, 0, 0, 0, 255, 0);
        SegmentTimes w = new SegmentTimes();
        for (int i = 0; i < 40; i++) {
            w.add(0, i, 255 - i, 255 - i);
        }
        Due.is("pieces of 40 neighbours", w.pieces(0), 41);
        piece(w, 0, 0, 0, 215, NONE);
        for (int i = 0; i < 40; i++) {
            piece(w, 0, 40 - i, 255 - i, 255 - i, i);
        }
    }

    /** "a longest range of positions ... at which the same segment is the first one" */
    private static void equalNeighbours() {
        SegmentTimes x = new SegmentTimes();
        x.add(0, 4, 10, 20);
        x.add(0, 4, 0, 255);
        x.add(0, 4, 15, 30);
        Due.is("equal values by number", x.pieces(0), 3);
        piece(x, 0, 0, 0, 9, 1);
        piece(x, 0, 1, 10, 20, 0);
        piece(x, 0, 2, 21, 255, 1);
        x.add(0, 3, 15, 15);
        Due.is("the same segment on both sides of a point", x.pieces(0), 5);
        piece(x, 0, 1, 10, 14, 0);
        piece(x, 0, 2, 15, 15, 3);
        piece(x, 0, 3, 16, 20, 0);
        Due.is("visible in two pieces", x.visible(0, 0), 10);
        Due.is("visible around", x.visible(1, 0), 10 + 235);
        Due.is("hidden behind equal values", x.visible(2, 0), 0);
        Due.is("hidden(0)", x.hidden(0), 1);
    }

    private static void piecesAtTheEdgesOfALife() {
        int[][] lives = {{0, 1}, {5, 9}, {16383, 16384}, {0, 16384}};
        for (int[] life : lives) {
            SegmentTimes x = new SegmentTimes();
            x.addThrough(100, 3, 101, 3, life[0], life[1]);
            Due.is("pieces at t1", x.pieces(life[0]), 3);
            Due.is("pieces before t2", x.pieces(life[1] - 1), 3);
            Due.is("pieces at t2", x.pieces(life[1]), 1);
            Due.is("sum at t1", x.sum(life[0], 0, 255), 6);
            Due.is("sum at t2", x.sum(life[1], 0, 255), 0);
            Due.is("visible at t1", x.visible(0, life[0]), 2);
            Due.is("visible before t2", x.visible(0, life[1] - 1), 2);
            Due.is("visible at t2", x.visible(0, life[1]), 0);
            Due.is("extreme before t2", x.extreme(life[1] - 1, true), 100);
            Due.is("extreme at t2", x.extreme(life[1], true), NONE);
            if (life[0] > 0) {
                Due.is("pieces before t1", x.pieces(life[0] - 1), 1);
                Due.is("visible before t1", x.visible(0, life[0] - 1), 0);
                Due.is("extreme before t1", x.extreme(life[0] - 1, false), NONE);
            }
        }
    }

    /** "The pieces cover the positions 0 to 255, each position exactly once." */
    private static void piecesCoverEachPositionOnce() {
        SegmentTimes x = new SegmentTimes();
        for (int i = 0; i < 40; i++) {
            int x1 = (i * 53) % 240;
            x.add(i % 7 - 3, (i * 31) % 90 - 45, x1, Math.min(255, x1 + i % 17));
        }
        int position = 0;
        int pieces = x.pieces(0);
        for (int i = 0; i < pieces; i++) {
            int first = x.piece(0, i, 0);
            int last = x.piece(0, i, 1);
            int segment = x.piece(0, i, 2);
            Due.is("a piece follows the one before", first, position);
            Due.is("no piece is empty", last >= first ? 1 : 0, 1);
            Due.is("its segment is the first one at its start", x.ranked(first, 0, 0), segment);
            Due.is("its segment is the first one at its end", x.ranked(last, 0, 0), segment);
            position = last + 1;
        }
        Due.is("the last piece ends at 255", position, 256);
    }

    /** "x1: 0 to x2", "x2: x1 to 255" */
    private static void sumRanges() {
        for (int x2 : new int[] {0, 100, 255}) {
            Edge.range("sum, x1 up to " + x2, Edge::rich, 0, x2, Due.ARGUMENT, (x, v) -> x.sum(5, v, x2));
        }
        for (int x1 : new int[] {0, 100, 255}) {
            Edge.range("sum, x2 from " + x1, Edge::rich, x1, 255, Due.ARGUMENT, (x, v) -> x.sum(5, x1, v));
        }
        Edge.refused("sum(5, -1, -1)", Edge::rich, Due.ARGUMENT, x -> x.sum(5, -1, -1));
        Edge.refused("sum(5, 256, 256)", Edge::rich, Due.ARGUMENT, x -> x.sum(5, 256, 256));
        Edge.refused("sum of everything wrong", Edge::rich, Due.ARGUMENT, x -> x.sum(-1, 256, -1));
    }

    /** "over all positions of a range at which a segment is there" */
    private static void sumOfPositionsWithASegment() {
        SegmentTimes x = new SegmentTimes();
        x.add(1, -7, 4, 8);
        x.add(0, 100, 255, 255);
        x.add(0, -9, 0, 0);
        int[][] ranges = {{0, 255}, {0, 0}, {255, 255}, {1, 3}, {9, 254}, {4, 8}, {3, 4}, {8, 9}, {5, 7}, {0, 4},
            {8, 255}, {6, 6}, {4, 5}};
        int[] due = {86, -9, 100, 0, 0, -5, -3, 1, -3, -12, 101, -1, -5};
        for (int i = 0; i < ranges.length; i++) {
            Due.is("sum(0, " + ranges[i][0] + ", " + ranges[i][1] + ")", x.sum(0, ranges[i][0], ranges[i][1]), due[i]);
        }
    }

    private static void sumOfTheWidestValues() {
        SegmentTimes x = new SegmentTimes();
        x.add(1000, 1000000, 0, 255);
        Due.is("the greatest sum", x.sum(0, 0, 255), 288640000L);
        Due.is("the greatest value", x.sum(16383, 255, 255), 1255000);
        x.add(-1000, -1000000, 0, 255);
        Due.is("the least sum", x.sum(0, 0, 255), -288640000L);
        Due.is("the least value", x.sum(16383, 255, 255), -1255000);
        Due.is("of an odd number of positions", x.sum(0, 0, 254), -288640000L + 1255000);
    }

    /** "if there is no such segment" comes before "if t is out of range". */
    private static void visibleRanges() {
        Edge.range("visible, segment", Edge::rich, 0, 2, Due.INDEX, (x, v) -> x.visible(v, 5));
        Edge.range("visible, segment in a full store", Edge::full, 0, 39, Due.INDEX, (x, v) -> x.visible(v, 0));
        for (int tick : new int[] {-1, 16385, Edge.LEAST, Edge.MOST}) {
            Edge.refused("no such segment first", Edge::rich, Due.INDEX, x -> x.visible(3, tick));
            Edge.refused("no such segment first", Edge::rich, Due.INDEX, x -> x.visible(-1, tick));
            Edge.refused("no such segment first", SegmentTimes::new, Due.INDEX, x -> x.visible(0, tick));
        }
        // where no segment is there, none but NONE stands in the piece
        Edge.refused("visible of NONE", SegmentTimes::new, Due.INDEX, x -> x.visible(NONE, 0));
    }

    private static void visibleFromNoneToAll() {
        SegmentTimes x = new SegmentTimes();
        x.add(0, 0, 0, 255);
        x.add(0, 0, 0, 255);
        Due.is("at all positions", x.visible(0, 0), 256);
        Due.is("at none", x.visible(1, 0), 0);
        Due.is("at all positions at the last tick", x.visible(0, 16383), 256);
        Due.is("at 16384", x.visible(0, 16384), 0);
        x.add(0, -1, 0, 0);
        x.add(0, -1, 255, 255);
        Due.is("at all but two", x.visible(0, 0), 254);
        Due.is("at 0 alone", x.visible(2, 0), 1);
        Due.is("at 255 alone", x.visible(3, 0), 1);
    }

    /** "live at a tick, and are not the first one in the ranking at any position" */
    private static void hiddenFromNoneToAllButOne() {
        Edge.answers("40 equal ones", () -> Edge.withSegments(40), 39, x -> x.hidden(0));
        Edge.answers("40 equal ones at the last tick", () -> Edge.withSegments(40), 39, x -> x.hidden(16383));
        Edge.answers("40 equal ones at 16384", () -> Edge.withSegments(40), 0, x -> x.hidden(16384));
        Edge.answers("one alone", () -> Edge.withSegments(1), 0, x -> x.hidden(0));
        Edge.answers("40 points", EnvelopeEdgesTest::apart, 0, x -> x.hidden(0));
        SegmentTimes x = new SegmentTimes();
        x.addThrough(0, 0, 255, 0, 4, 8);
        x.addThrough(0, 1, 255, 1, 5, 7);
        int[] due = {0, 1, 1, 0, 0};
        for (int t = 4; t <= 8; t++) {
            Due.is("hidden(" + t + ")", x.hidden(t), due[t - 4]);
        }
    }

    /** "NONE if no segment is live"; the positions 0 and 255 */
    private static void extremeAtTheEdges() {
        SegmentTimes x = new SegmentTimes();
        x.add(1, 0, 0, 255);
        Due.is("smallest at 0", x.extreme(0, false), 0);
        Due.is("greatest at 255", x.extreme(0, true), 255);
        Due.is("greatest at the last tick", x.extreme(16383, true), 255);
        Due.is("at 16384", x.extreme(16384, true), NONE);
        Due.is("at 16384", x.extreme(16384, false), NONE);
        SegmentTimes y = new SegmentTimes();
        y.add(-1000, 1000000, 0, 255);
        Due.is("smallest at 255", y.extreme(0, false), 255);
        Due.is("greatest at 0", y.extreme(0, true), 0);
        y.add(-1000, -1000000, 255, 255);
        Due.is("the least value", y.extreme(0, false), 255);
        SegmentTimes z = new SegmentTimes();
        z.add(1000, 1000000, 255, 255);
        Due.is("the greatest value, greatest", z.extreme(0, true), 255);
        Due.is("the greatest value, smallest", z.extreme(0, false), 255);
    }

    /** "of several the smallest position" */
    private static void extremeOfSeveral() {
        SegmentTimes x = new SegmentTimes();
        x.add(0, 0, 3, 255);
        Due.is("of a level one", x.extreme(0, false), 3);
        Due.is("of a level one", x.extreme(0, true), 3);
        x.add(-1, 9, 0, 1);
        x.add(1, -245, 254, 255);
        Due.is("the greatest of all", x.extreme(0, true), 0);
        Due.is("the smallest of all", x.extreme(0, false), 3);
        SegmentTimes y = new SegmentTimes();
        y.add(1, 0, 0, 10);
        y.add(-1, 20, 11, 20);
        y.add(1, -30, 30, 40);
        Due.is("the greatest ones at 10 and 40", y.extreme(0, true), 10);
        Due.is("the smallest ones at 0, 20 and 30", y.extreme(0, false), 0);
        y.addThrough(0, 1, 0, 1, 0, 1);
        y.end(0);
        Due.is("the smallest ones at 20 and 30", y.extreme(0, false), 20);
    }

    private static void nothingIsSaved() {
        StateEdges.savesNothing("pieces", x -> x.pieces(0));
        StateEdges.savesNothing("piece", x -> x.piece(0, 0, 0));
        StateEdges.savesNothing("sum", x -> x.sum(0, 0, 255));
        StateEdges.savesNothing("visible", x -> x.visible(0, 0));
        StateEdges.savesNothing("hidden", x -> x.hidden(0));
        StateEdges.savesNothing("extreme", x -> x.extreme(0, true));
    }
}
