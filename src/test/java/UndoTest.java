/** Promises 16 to 18: the snapshot, and undo of all that is marked undoable. */
public final class UndoTest {
    private static final Class<IllegalStateException> STATE = IllegalStateException.class;

    public static void main(String[] args) {
        undoOfEachCall();
        sixStatesAtMost();
        undoLeavesBufferAndSnapshot();
        keepAndGoBack();
        snapshotStays();
        callsThatSaveNothing();
        Check.end();
    }

    /** A theatre in which every number of the state differs from that of a new one. */
    private static CrankTheatre played() {
        CrankTheatre x = new CrankTheatre();
        x.clutch(1);
        x.hand(1, 2);
        x.file(2, 4, 6);
        x.change(0, 7);
        x.set(5);
        x.remember();
        x.turn(9);
        x.turn(-2);
        x.remember();
        x.stop(8);
        Check.work(x, "+4");
        x.lift();
        return x;
    }

    private static void undone(String what, CrankTheatre x, Check.Call call) {
        for (int saved = x.count(12); saved > 0; saved--) {
            x.undo();
        }
        long before = x.digest();
        call.make();
        Check.equal(what + " saves a state", x.count(12), 1);
        Check.equal(what + " is undone", x.undo(), 0);
        Check.equal(what + " leaves all as it was", x.digest(), before);
    }

    private static void undoOfEachCall() {
        CrankTheatre x = played();
        undone("turn", x, () -> x.turn(-5));
        undone("turn of no step", x, () -> {
            x.stop(x.count(1));
            x.undo();
            return x.turn(5);
        });
        undone("lift", x, x::lift);
        undone("stop", x, () -> x.stop(3));
        undone("clutch", x, () -> x.clutch(2));
        undone("hand", x, () -> x.hand(1, 3));
        undone("file", x, () -> x.file(4, 3, 9));
        undone("file to the same height", x, () -> x.file(4, 3, 3));
        undone("change", x, () -> x.change(3, 5));
        undone("set", x, () -> x.set(6));
        undone("set to the same", x, () -> x.set(x.count(9)));
        undone("remember", x, x::remember);
        undone("forget", x, () -> x.forget(0));
        undone("work", x, () -> Check.work(x, "l+1k3"));
        x.keep();
        x.turn(-3);
        x.forget(0);
        undone("goBack", x, x::goBack);
        undone("goBack to where it is", x, () -> {
            x.keep();
            return x.goBack();
        });
    }

    private static void sixStatesAtMost() {
        CrankTheatre x = new CrankTheatre();
        long[] digests = new long[9];
        for (int step = 0; step < 9; step++) {
            digests[step] = x.wheel(4, 1);
            x.turn(1);
            Check.equal("saved", x.count(12), Math.min(step + 1, 6));
        }
        for (int left = 5; left >= 0; left--) {
            Check.equal("left", x.undo(), left);
            Check.equal("moon", x.wheel(4, 1), digests[left + 3]);
        }
        Check.refuses("no more", x, STATE, x::undo);
        Check.equal("the oldest ones are dropped", x.count(0), 3);
        x.turn(2);
        Check.equal("saved anew", x.count(12), 1);
        x.undo();
        Check.equal("and undone", x.count(0), 3);
    }

    private static void undoLeavesBufferAndSnapshot() {
        CrankTheatre x = new CrankTheatre();
        x.turn(1);
        Check.type(x, "+2");
        x.turn(1);
        x.keep();
        x.undo();
        Check.equal("the buffer stays", x.clearBuffer(), 2);
        x.undo();
        Check.equal("back at 0", x.count(0), 0);
        x.goBack();
        Check.equal("the snapshot stayed", x.count(0), 2);
        Check.equal("one saved state", x.count(12), 1);
        Check.type(x, "+3");
        x.work();
        x.undo();
        Check.equal("undo does not bring the text back", x.clearBuffer(), 0);
    }

    private static void keepAndGoBack() {
        CrankTheatre x = played();
        int saved = x.count(12);
        Check.equal("keep tells scenes", x.keep(), 2);
        Check.equal("keep saves nothing", x.count(12), saved);
        long kept = x.digest();
        x.forget(0);
        x.turn(-9);
        x.stop(8);
        x.set(9);
        x.change(4, 3);
        x.clutch(1);
        Check.work(x, "-1");
        Check.equal("goBack tells scenes", x.goBack(), 2);
        Check.equal("saved", x.count(12), 6);
        Check.equal("as it was kept, but for what the saved states are", x.digest(), kept);
        Check.equal("undo", x.undo(), 5);
        Check.equal("one scene", x.count(7), 1);
    }

    private static void snapshotStays() {
        CrankTheatre x = new CrankTheatre();
        x.turn(4);
        x.keep();
        x.turn(4);
        x.goBack();
        x.turn(1);
        Check.equal("again", x.goBack(), 0);
        Check.equal("count", x.count(0), 4);
        x.turn(3);
        x.keep();
        x.turn(1);
        x.goBack();
        Check.equal("in place of the one that was", x.count(0), 7);
        CrankTheatre y = new CrankTheatre();
        Check.refuses("without a snapshot", y, STATE, y::goBack);
    }

    private static void callsThatSaveNothing() {
        CrankTheatre x = new CrankTheatre();
        x.append('l');
        x.firstError();
        x.clearBuffer();
        x.keep();
        x.wheel(0, 0);
        x.tooth(0, 0);
        x.count(0);
        x.why(0);
        x.round(0);
        x.jamsIn(0);
        x.ahead(0, 0);
        x.frees(0);
        x.allowedShare();
        x.meanHeight();
        x.digest();
        Check.equal("nothing saved", x.count(12), 0);
    }
}
