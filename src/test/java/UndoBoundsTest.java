/** Promises 16 to 18, and the term of undo: a method for each sentence that names a bound. */
public final class UndoBoundsTest {
    private static final Class<IllegalStateException> STATE = IllegalStateException.class;

    private static final String[] NAMES = {"turn", "lift", "stop", "clutch", "hand", "file", "change", "set", "remember",
        "forget", "work", "goBack"};

    public static void main(String[] args) {
        sixStatesOfEachCallAtMost();
        theOldestStateIsDroppedFirst();
        savedAlsoIfNothingIsChanged();
        refusedCallsSaveNothing();
        otherCallsSaveNothing();
        undoRestoresAllOfTheState();
        undoLeavesTheBuffer();
        undoLeavesTheSnapshot();
        undoWithNoneLeft();
        undoIsNotUndoable();
        undoThenOtherCalls();
        keepTellsScenesFrom0To6();
        keepInPlaceOfTheOneThatWas();
        snapshotStaysAsItWas();
        goBackTellsScenesFrom0To6();
        goBackIsUndoable();
        goBackWithoutASnapshot();
        goBackLeavesTheBuffer();
        Check.end();
    }

    /** One of the calls that are marked undoable; each can be made again and again. */
    private static long undoable(CrankTheatre x, int call) {
        switch (call) {
            case 0: return x.turn(1);
            case 1: return x.lift();
            case 2: return x.stop(30);
            case 3: return x.clutch(0);
            case 4: return x.hand(4, 1);
            case 5: return x.file(3, 1, 3);
            case 6: return x.change(1, 5);
            case 7: return x.set(7);
            case 8: return x.remember();
            case 9: return x.forget(0);
            case 10: return Check.work(x, "+1");
            default: return x.goBack();
        }
    }

    /** Ready for each of them: the moon loose, scenes to forget, a snapshot; one state is saved, that of goBack(). */
    private static CrankTheatre ready(int call) {
        CrankTheatre x = new CrankTheatre();
        x.clutch(4);
        int scenes = call == 9 ? 6 : 0;
        for (int scene = 0; scene < scenes; scene++) {
            x.remember();
        }
        x.keep();
        for (int saved = x.count(12); saved > 0; saved--) {
            x.undo();
        }
        x.goBack();
        return x;
    }

    private static void sixStatesOfEachCallAtMost() {
        for (int call = 0; call < NAMES.length; call++) {
            CrankTheatre x = ready(call);
            int most = call == 8 || call == 9 ? 6 : 9;
            for (int times = 1; times <= most; times++) {
                undoable(x, call);
                Check.equal("saved behind " + NAMES[call], x.count(12), Math.min(times + 1, 6));
            }
            for (int left = 5; left >= 0; left--) {
                Check.equal("left", x.undo(), left);
                Check.equal("told", x.count(12), left);
            }
            Check.refuses("no more of " + NAMES[call], x, STATE, x::undo);
        }
    }

    private static void theOldestStateIsDroppedFirst() {
        for (int calls = 0; calls <= 20; calls++) {
            CrankTheatre x = new CrankTheatre();
            for (int call = 1; call <= calls; call++) {
                x.turn(call);
            }
            int saved = Math.min(calls, 6);
            Check.equal("saved", x.count(12), saved);
            for (int back = 1; back <= saved; back++) {
                x.undo();
                int left = calls - back;
                Check.equal("count", x.count(0), left * (left + 1) / 2);
            }
            Check.refuses("the older ones are dropped", x, STATE, x::undo);
        }
    }

    private static void unchanged(String what, Check.Use use) {
        CrankTheatre x = new CrankTheatre();
        x.stop(0);
        x.clutch(0);
        x.lift();
        x.keep();
        x.file(2, 1, 9);
        x.file(1, 1, 0);
        long before = x.digest();
        use.on(x);
        Check.equal(what + " saves", x.count(12), 6);
        Check.equal(what + " is undone", x.undo(), 5);
        Check.equal(what + " leaves all as it was", x.digest(), before);
        Check.equal("the state before it is there", x.undo(), 4);
        Check.equal("as it was", x.tooth(1, 1), 9);
    }

    private static void savedAlsoIfNothingIsChanged() {
        unchanged("a turn of no step", x -> x.turn(1));
        unchanged("a lift of a lifted crank", CrankTheatre::lift);
        unchanged("a whole turn by hand", x -> x.hand(0, 4));
        unchanged("two whole turns by hand", x -> x.hand(0, 8));
        unchanged("the same height", x -> x.file(4, 3, 3));
        unchanged("the same teeth", x -> x.change(0, 4));
        unchanged("the same setting", x -> x.set(4));
        unchanged("going back to where it is", x -> {
            x.keep();
            return x.goBack();
        });
        unchanged("work of nothing", x -> {
            Check.type(x, "+1");
            return x.work();
        });
        unchanged("work of two clutches", x -> {
            Check.type(x, "k3k3");
            return x.work();
        });
    }

    private static void refusedCallsSaveNothing() {
        CrankTheatre x = Stage.tight();
        x.undo();
        Check.equal("saved", x.count(12), 5);
        Check.refuses("turn", x, IllegalArgumentException.class, () -> x.turn(0));
        Check.refuses("stop", x, IndexOutOfBoundsException.class, () -> x.stop(60));
        Check.refuses("hand", x, STATE, () -> x.hand(0, 1));
        Check.refuses("file", x, STATE, () -> x.file(0, 0, 4));
        Check.refuses("set", x, STATE, () -> x.set(3));
        Check.refuses("forget", x, IndexOutOfBoundsException.class, () -> x.forget(0));
        Check.refuses("work", x, IllegalArgumentException.class, x::work);
        Check.equal("saved still", x.count(12), 5);
    }

    private static void otherCallsSaveNothing() {
        CrankTheatre x = Stage.played();
        x.undo();
        x.append('l');
        x.firstError();
        x.clearBuffer();
        x.keep();
        x.keep();
        x.wheel(0, 0);
        x.tooth(0, 0);
        x.scene(0, 7);
        x.count(12);
        x.why(0);
        x.round(0);
        x.round(1);
        x.jamsIn(0);
        x.ahead(1, 0);
        x.frees(0);
        x.allowedShare();
        x.meanHeight();
        x.digest();
        Check.equal("saved still", x.count(12), 5);
    }

    /** Everything is changed and undone; the digest tells all of it, what is counted and the latest stop, too. */
    private static void undoRestoresAllOfTheState() {
        for (int call = 0; call < NAMES.length; call++) {
            CrankTheatre x = new CrankTheatre();
            x.clutch(4);
            x.remember();
            x.stop(2);
            x.keep();
            x.turn(1);
            Check.work(x, "-2+2+9");
            long before = x.digest();
            int saved = x.count(12);
            undoable(x, call);
            Check.equal("saved by " + NAMES[call], x.count(12), saved + 1);
            Check.equal(NAMES[call] + " is undone", x.undo(), saved);
            Check.equal("all as it was ahead of " + NAMES[call], x.digest(), before);
        }
    }

    private static void undoLeavesTheBuffer() {
        CrankTheatre x = new CrankTheatre();
        x.turn(1);
        Check.type(x, "+1");
        x.turn(1);
        x.append('0');
        Check.equal("undo", x.undo(), 1);
        Check.equal("the text stays whole", x.firstError(), 3);
        Check.equal("and is worked", x.work(), 10);
        Check.equal("undo", x.undo(), 1);
        Check.equal("the buffer stays empty", x.clearBuffer(), 0);
        Check.equal("undo", x.undo(), 0);
        Check.equal("the beginning", x.count(0), 0);
    }

    private static void undoLeavesTheSnapshot() {
        CrankTheatre x = new CrankTheatre();
        x.turn(1);
        x.keep();
        x.undo();
        Check.equal("no saved state", x.count(12), 0);
        Check.equal("the snapshot is there", x.goBack() + x.count(0), 1);
        x.undo();
        Check.equal("undone", x.count(0), 0);
        Check.equal("it is there still", x.goBack() + x.count(0), 1);
    }

    private static void undoWithNoneLeft() {
        CrankTheatre x = new CrankTheatre();
        Check.refuses("none at first", x, STATE, x::undo);
        x.lift();
        Check.equal("one", x.undo(), 0);
        Check.refuses("none again", x, STATE, x::undo);
        Check.refuses("none twice", x, STATE, x::undo);
        x.lift();
        x.lift();
        Check.equal("two", x.undo(), 1);
        Check.equal("one", x.undo(), 0);
        Check.refuses("none", x, STATE, x::undo);
    }

    private static void undoIsNotUndoable() {
        CrankTheatre x = new CrankTheatre();
        x.turn(1);
        x.turn(2);
        x.undo();
        Check.equal("one left", x.count(12), 1);
        x.undo();
        Check.equal("not the undo, but the first turn", x.count(0), 0);
    }

    private static void undoThenOtherCalls() {
        CrankTheatre x = new CrankTheatre();
        for (int step = 0; step < 8; step++) {
            x.turn(1);
        }
        for (int round = 0; round < 9; round++) {
            x.undo();
            x.undo();
            Check.equal("four are left", x.count(12), 4);
            x.turn(1);
            x.turn(1);
            Check.equal("count", x.count(0), 8);
            Check.equal("six", x.count(12), 6);
        }
        for (int left = 5; left >= 0; left--) {
            Check.equal("left", x.undo(), left);
            Check.equal("count", x.count(0), left + 2);
        }
    }

    private static void keepTellsScenesFrom0To6() {
        CrankTheatre x = new CrankTheatre();
        Check.equal("none", x.keep(), 0);
        for (int scenes = 1; scenes <= 6; scenes++) {
            x.remember();
            Check.equal("scenes", x.keep(), scenes);
        }
        x.forget(3);
        Check.equal("five", x.keep(), 5);
        Check.equal("not undoable", x.count(12), 6);
    }

    private static void keepInPlaceOfTheOneThatWas() {
        CrankTheatre x = new CrankTheatre();
        x.keep();
        x.turn(1);
        x.keep();
        x.turn(1);
        x.goBack();
        Check.equal("the later one", x.count(0), 1);
        x.undo();
        x.undo();
        x.undo();
        Check.equal("the beginning", x.count(0), 0);
        x.keep();
        x.turn(5);
        x.goBack();
        Check.equal("the latest one", x.count(0), 0);
    }

    /** Neither what is done behind it nor what is done behind goBack() changes the snapshot. */
    private static void snapshotStaysAsItWas() {
        CrankTheatre x = Stage.full();
        x.goBack();
        long kept = x.digest();
        for (int round = 0; round < 3; round++) {
            x.file(4, 1, 9);
            x.stop(9);
            x.forget(0);
            x.lift();
            x.turn(2);
            x.change(2, 3);
            x.set(9);
            x.clearBuffer();
            Check.equal("work", Check.work(x, "+1k1"), 1);
            Check.equal("scenes again", x.goBack(), 6);
            for (int length = 0; length < 60; length++) {
                x.append('l');
            }
            Check.equal("as it was kept", x.digest(), kept);
        }
    }

    private static void goBackTellsScenesFrom0To6() {
        for (int scenes = 0; scenes <= 6; scenes++) {
            CrankTheatre x = new CrankTheatre();
            for (int scene = 0; scene < scenes; scene++) {
                x.remember();
            }
            x.keep();
            if (scenes > 0) {
                x.forget(0);
            } else {
                x.remember();
            }
            Check.equal("scenes", x.goBack(), scenes);
            Check.equal("told", x.count(7), scenes);
        }
    }

    private static void goBackIsUndoable() {
        CrankTheatre x = new CrankTheatre();
        x.keep();
        x.turn(7);
        x.remember();
        long before = x.digest();
        x.goBack();
        Check.equal("saved", x.count(12), 3);
        Check.equal("at the snapshot", x.count(0) + x.count(7), 0);
        x.goBack();
        Check.equal("saved, too", x.count(12), 4);
        Check.equal("undone", x.undo(), 3);
        Check.equal("at the snapshot still", x.count(0) + x.count(7), 0);
        Check.equal("undone", x.undo(), 2);
        Check.equal("all as it was", x.digest(), before);
    }

    private static void goBackWithoutASnapshot() {
        CrankTheatre x = new CrankTheatre();
        Check.refuses("none at first", x, STATE, x::goBack);
        x.turn(1);
        Check.refuses("a saved state is none", x, STATE, x::goBack);
        x.keep();
        Check.equal("now", x.goBack(), 0);
        Check.equal("and again", x.goBack(), 0);
    }

    private static void goBackLeavesTheBuffer() {
        CrankTheatre x = new CrankTheatre();
        Check.type(x, "+1");
        x.keep();
        x.append('2');
        x.turn(1);
        x.goBack();
        Check.equal("the text of now", x.work(), 12);
        x.goBack();
        Check.equal("the empty buffer of now", x.clearBuffer(), 0);
    }
}
