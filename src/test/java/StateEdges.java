/** What the tests of edges share about saved states: which calls save one, and which save none. */
final class StateEdges {
    private StateEdges() {
    }

    /**
     * The first state of Edge.unsaved() has two live segments, two queries and two marks, and none
     * saved. The call saves one state there, and a fifth one drops the oldest of four.
     */
    static void undoable(String told, Edge.Call call) {
        undoable(told, Edge::unsaved, call);
    }

    static void undoable(String told, Edge.Maker unsaved, Edge.Call call) {
        SegmentTimes x = unsaved.make();
        Due.thrown("undo() before " + told, Due.STATE, () -> x.undo());
        long before = x.digest();
        call.run(x);
        Due.is("undo() of " + told, x.undo(), 0);
        Due.is("digest() after undo() of " + told, x.digest(), before);
        Due.thrown("undo() once more after " + told, Due.STATE, () -> x.undo());
        for (int i = 0; i < 4; i++) {
            x.pass(0);
        }
        call.run(x);
        Due.is("undo() of " + told + " behind four others", x.undo(), 3);
        // three of the four are left, so the digest ends with 3 more than it did
        Due.is("digest() after it", x.digest(), before + 3);
        for (int i = 2; i >= 0; i--) {
            Due.is("undo() of the others", x.undo(), i);
        }
        Due.thrown("undo() of what " + told + " dropped", Due.STATE, () -> x.undo());
        Due.is("digest() at last", x.digest(), before);
    }

    static void savesNothing(String told, Edge.Call call) {
        SegmentTimes x = Edge.unsaved();
        call.run(x);
        Due.thrown("undo() after " + told, Due.STATE, () -> x.undo());
        SegmentTimes y = Edge.full();
        call.run(y);
        Due.is("undo() after " + told, y.undo(), 3);
        Due.is("the state before the last mark()", y.mark(), 5);
    }
}
