import java.util.function.Consumer;

/** The boundaries of promises 13 to 15, of what is saved, and of calls that throw: keep, goBack, undo. */
public final class EdgesOfUndoTest {
    private static final Check check = new Check();

    /** The calls that are marked undoable, with the promise of each. */
    private enum Undoable {
        TICK(2, x -> x.tick(3)),
        VOTE(3, DialWardens::vote),
        CORRECT(4, DialWardens::correct),
        PUT(5, x -> x.put(3, 777)),
        DRIFT(6, x -> x.drift(5, -4)),
        WARDEN(7, x -> x.warden(4, 8, 33)),
        SET(8, x -> x.set(1, 44)),
        OBEY(12, x -> obey(x, "t9;v;c;d1+1")),
        GO_BACK(14, DialWardens::goBack);

        private final int promise;
        private final Consumer<DialWardens> call;

        Undoable(int promise, Consumer<DialWardens> call) {
            this.promise = promise;
            this.call = call;
        }
    }

    public static void main(String[] args) {
        keepTakesThePlace();
        keepSavesNoState();
        keepTakesAllThatUndoRestores();
        noSnapshot();
        theSnapshotStays();
        goBackOfASnapshotLikeNow();
        goBackLeavesBufferAndSavedStates();
        noSavedState();
        undoTellsWhatIsLeft();
        undoDropsTheLatest();
        eachUndoableSaves();
        alsoIfItChangesNothing();
        whatSavesNothing();
        undoRestoresAllButThree();
        sixStatesAtMost();
        theOldestIsDropped();
        refusedCallsSaveNothing();
        refusedCallsDropNothing();
        check.end();
    }

    private static int obey(DialWardens x, String text) {
        Check.append(x, text);
        return x.obey();
    }

    private static void sameLooks(String what, DialWardens x, String due) {
        String got = Towns.looks(x);
        if (!got.equals(due)) {
            check.tell(what + " looks like " + got + ", due is " + due);
        }
    }

    /** A town in which the numbers of the state are others than at first, with one saved state. */
    private static DialWardens usedTown() {
        DialWardens x = new DialWardens();
        x.drift(0, 5);
        x.drift(1, -5);
        x.warden(2, 9, -60);
        x.warden(3, 1, 60);
        x.set(0, 14);
        x.set(1, 6);
        x.tick(30);
        x.vote();
        x.vote();
        x.correct();
        x.put(5, 600);
        x.put(6, 7);
        x.keep();
        while (x.count(13) > 0) {
            x.undo();
        }
        x.goBack();
        return x;
    }

    private static void changeAll(DialWardens x) {
        for (Undoable each : Undoable.values()) {
            if (each != Undoable.GO_BACK) {
                each.call.accept(x);
            }
        }
    }

    // ---- promise 13

    private static void keepTakesThePlace() {
        check.promise(13, "in place of the one that was");
        DialWardens x = new DialWardens();
        check.same("keep of a new object", x.keep(), 0);
        x.tick(10);
        x.vote();
        check.same("keep again", x.keep(), 100);
        x.tick(5);
        check.same("back to the second one", x.goBack(), 100);
        check.same("true time", x.count(0), 100);
        check.same("keep of an older state", x.undo() + x.undo() + x.undo(), 3 + 2 + 1);
        check.same("it tells the town", x.keep(), 0);
        x.tick(1);
        x.goBack();
        check.same("the town of the older state", x.count(1), 0);
        check.same("true time of the older state", x.count(0), 100);
        check.promise(13, "Returns what the town tells");
        DialWardens y = Towns.telling(99999);
        check.same("keep at the top", y.keep(), 99999);
        y.tick(1);
        check.same("not the true time", y.keep(), 99999);
    }

    private static void keepSavesNoState() {
        check.promise(13, "Each method that is marked \"undoable\"");
        DialWardens x = new DialWardens();
        x.keep();
        check.same("saved states", x.count(13), 0);
        check.refuses(x, "undo of keep", IllegalStateException.class, x::undo);
        x.tick(1);
        x.keep();
        check.same("saved states", x.count(13), 1);
        check.same("undo of the tick", x.undo(), 0);
        check.same("true time", x.count(0), 0);
        check.same("the snapshot is there", x.goBack(), 0);
        check.same("true time of the snapshot", x.count(0), 10);
    }

    private static void keepTakesAllThatUndoRestores() {
        check.promise(13, "Takes a snapshot of the state (of all that undo() would restore)");
        DialWardens x = usedTown();
        String kept = Towns.looks(x);
        x.keep();
        sameLooks("keep", x, kept);
        changeAll(x);
        x.goBack();
        sameLooks("goBack", x, kept);
    }

    // ---- promise 14

    private static void noSnapshot() {
        check.promise(14, "if there is no snapshot");
        DialWardens x = new DialWardens();
        check.refuses(x, "goBack of a new object", IllegalStateException.class, x::goBack);
        x.tick(1);
        check.refuses(x, "goBack with a saved state", IllegalStateException.class, x::goBack);
        check.same("saved states", x.count(13), 1);
        x.keep();
        check.same("goBack behind keep", x.goBack(), 0);
        check.same("saved states", x.count(13), 2);
    }

    private static void theSnapshotStays() {
        check.promise(14, "Goes back to the snapshot, which stays");
        DialWardens x = usedTown();
        x.keep();
        String kept = Towns.looks(x);
        changeAll(x);
        x.goBack();
        changeAll(x);
        x.goBack();
        sameLooks("the second goBack", x, kept);
        changeAll(x);
        while (x.count(13) > 0) {
            x.undo();
        }
        x.goBack();
        sameLooks("goBack behind all undos", x, kept);
    }

    private static void goBackOfASnapshotLikeNow() {
        check.promise(14, "Undoable");
        DialWardens x = new DialWardens();
        x.tick(30);
        x.vote();
        x.keep();
        check.same("goBack to where it is", x.goBack(), 300);
        check.same("it is saved", x.count(13), 3);
        check.same("undo of it", x.undo(), 2);
        check.promise(14, "Returns what the town tells then");
        DialWardens y = new DialWardens();
        y.keep();
        y.tick(30);
        y.vote();
        check.same("what it tells then, not before", y.goBack(), 0);
        y.undo();
        check.same("what it told before", y.count(1), 300);
    }

    private static void goBackLeavesBufferAndSavedStates() {
        check.promise(14, "all, also what is counted so far, but the buffer, the snapshot and the saved states");
        DialWardens x = new DialWardens();
        x.tick(1);
        Check.append(x, "v;v");
        x.keep();
        x.tick(2);
        x.tick(3);
        x.append(';');
        x.goBack();
        check.same("the buffer is as before goBack", x.firstError(), 4);
        check.same("no saved state went", x.count(13), 4);
        check.same("undo of goBack", x.undo(), 3);
        check.same("true time", x.count(0), 60);
        check.same("the buffer is as before undo", x.clearBuffer(), 4);
    }

    // ---- promise 15

    private static void noSavedState() {
        check.promise(15, "if there is none");
        DialWardens x = new DialWardens();
        check.refuses(x, "undo of a new object", IllegalStateException.class, x::undo);
        x.tick(1);
        check.same("undo of one", x.undo(), 0);
        check.refuses(x, "undo behind the last one", IllegalStateException.class, x::undo);
        x.tick(2);
        x.keep();
        x.undo();
        check.refuses(x, "undo with a snapshot", IllegalStateException.class, x::undo);
        x.goBack();
        check.same("true time of the snapshot", x.count(0), 20);
        check.same("undo of goBack", x.undo(), 0);
        check.same("true time behind it", x.count(0), 0);
    }

    private static void undoTellsWhatIsLeft() {
        check.promise(15, "Returns how many saved states are left");
        for (int calls = 1; calls <= 8; calls++) {
            DialWardens x = new DialWardens();
            for (int i = 0; i < calls; i++) {
                x.tick(1);
            }
            int saved = Math.min(calls, 6);
            check.same("saved states behind " + calls, x.count(13), saved);
            for (int left = saved - 1; left >= 0; left--) {
                check.same("undo of " + calls, x.undo(), left);
                check.same("saved states", x.count(13), left);
            }
            check.refuses(x, "one undo more than " + saved, IllegalStateException.class, x::undo);
        }
    }

    private static void undoDropsTheLatest() {
        check.promise(15, "Restores the latest saved state, and drops it");
        DialWardens x = new DialWardens();
        x.tick(1);
        x.tick(2);
        x.tick(3);
        x.undo();
        check.same("true time behind undo", x.count(0), 30);
        x.tick(4);
        check.same("undo of what came behind it", x.undo(), 2);
        check.same("true time", x.count(0), 30);
        check.same("no undo is undone", x.undo(), 1);
        check.same("true time", x.count(0), 10);
        check.same("the first one", x.undo(), 0);
        check.same("true time", x.count(0), 0);
    }

    // ---- what is saved

    private static void eachUndoableSaves() {
        for (Undoable each : Undoable.values()) {
            check.promise(each.promise, "Undoable");
            DialWardens x = usedTown();
            x.keep();
            x.tick(8);
            long before = x.digest();
            int saved = x.count(13);
            each.call.accept(x);
            check.same("saved states behind " + each, x.count(13), saved + 1);
            check.same("undo of " + each, x.undo(), saved);
            check.same("the digest behind the undo of " + each, x.digest(), before);
        }
    }

    private static void unchanging(int promise, String what, Consumer<DialWardens> call) {
        check.promise(promise, "saves the state from before it (also if it changes nothing)");
        DialWardens x = new DialWardens();
        x.keep();
        String before = Towns.looks(x);
        call.accept(x);
        sameLooks(what, x, before);
        check.same("saved states behind " + what, x.count(13), 1);
        check.same("undo of " + what, x.undo(), 0);
        sameLooks("undo of " + what, x, before);
    }

    private static void alsoIfItChangesNothing() {
        unchanging(4, "correct that moves none", DialWardens::correct);
        unchanging(5, "put where it is", x -> x.put(0, 0));
        unchanging(6, "drift as it is", x -> x.drift(6, 0));
        unchanging(7, "warden as it is", x -> x.warden(3, 3, 0));
        unchanging(8, "set as it is", x -> x.set(0, 15));
        unchanging(12, "obey of what changes nothing", x -> obey(x, "c;d0+0;d6-0"));
        unchanging(14, "goBack to where it is", DialWardens::goBack);
    }

    private static void whatSavesNothing() {
        check.promise(15, "Each method that is marked \"undoable\"");
        DialWardens x = new DialWardens();
        x.append('v');
        x.firstError();
        x.clearBuffer();
        x.keep();
        Towns.looks(x);
        x.count(13);
        for (int i = 0; i < 7; i++) {
            x.without(i);
            x.wins(i);
            x.quarrelIn(i);
            x.ringsIn(i);
        }
        x.pivot();
        x.heldShare();
        x.meanError();
        x.digest();
        check.same("saved states", x.count(13), 0);
        x.tick(1);
        check.same("undo", x.undo(), 0);
        check.same("saved states behind undo", x.count(13), 0);
    }

    private static void undoRestoresAllButThree() {
        check.promise(15, "all, also what is counted so far, but the buffer, the snapshot and the saved states");
        DialWardens x = usedTown();
        String before = Towns.looks(x);
        int saved = x.count(13);
        x.tick(99);
        x.put(3, 99999);
        x.put(3, 0);
        x.vote();
        x.correct();
        for (int i = 0; i < 5; i++) {
            x.undo();
        }
        check.same("saved states", x.count(13), saved);
        sameLooks("undo of all that counts", x, before);
        x.tick(1);
        Check.append(x, "v;t");
        x.keep();
        x.undo();
        check.same("the buffer stays", x.firstError(), 3);
        check.same("the buffer stays", x.append('7'), 4);
        int time = x.count(0);
        x.goBack();
        check.same("the snapshot stays", x.count(0), time + 10);
        check.same("obey", x.obey(), 2);
        x.undo();
        check.same("what was obeyed does not come back", x.clearBuffer(), 0);
        check.refuses(x, "obey behind undo", IllegalArgumentException.class, x::obey);
    }

    private static void sixStatesAtMost() {
        for (Undoable each : Undoable.values()) {
            check.promise(each.promise, "At most 6 states are saved");
            DialWardens x = new DialWardens();
            x.keep();
            for (int calls = 1; calls <= 8; calls++) {
                each.call.accept(x);
                check.same("saved states behind " + calls + " of " + each, x.count(13), Math.min(calls, 6));
            }
            for (int left = 5; left >= 0; left--) {
                check.same("undo of " + each, x.undo(), left);
            }
            check.refuses(x, "the seventh undo of " + each, IllegalStateException.class, x::undo);
        }
    }

    /** Behind the ticks the call, and then all undos: the last of them tells which states there were. */
    private static void firstStateBehind(Undoable each, int ticks, int due) {
        DialWardens x = new DialWardens();
        for (int i = 0; i < ticks; i++) {
            x.tick(1);
        }
        x.keep();
        String before = Towns.looks(x);
        each.call.accept(x);
        check.same("saved states behind " + ticks + " ticks and " + each, x.count(13), Math.min(ticks + 1, 6));
        x.undo();
        sameLooks("undo of " + each, x, before);
        for (int left = x.count(13); left > 0; left--) {
            check.same("undo", x.undo(), left - 1);
        }
        check.same("the oldest state behind " + ticks + " ticks and " + each, x.count(0), due);
    }

    private static void theOldestIsDropped() {
        for (Undoable each : Undoable.values()) {
            check.promise(each.promise, "the oldest one is dropped first");
            firstStateBehind(each, 4, 0);
            firstStateBehind(each, 5, 0);
            firstStateBehind(each, 6, 10);
            firstStateBehind(each, 7, 20);
        }
    }

    // ---- calls that throw

    /** No weights, a full buffer that is not complete orders, and six saved states. */
    private static DialWardens townThatRefuses() {
        DialWardens x = new DialWardens();
        Towns.weighNothing(x);
        Check.append(x, "v;".repeat(30));
        for (int i = 1; i <= 6; i++) {
            x.tick(i);
        }
        return x;
    }

    private static void refuseAll(DialWardens x) {
        Class<IndexOutOfBoundsException> index = IndexOutOfBoundsException.class;
        Class<IllegalArgumentException> argument = IllegalArgumentException.class;
        Class<IllegalStateException> state = IllegalStateException.class;
        check.refuses(x, "tick(0)", argument, () -> x.tick(0));
        check.refuses(x, "tick(100)", argument, () -> x.tick(100));
        check.refuses(x, "vote()", state, x::vote);
        check.refuses(x, "put(7, 5)", index, () -> x.put(7, 5));
        check.refuses(x, "put(0, 100000)", argument, () -> x.put(0, 100000));
        check.refuses(x, "drift(7, 1)", index, () -> x.drift(7, 1));
        check.refuses(x, "drift(0, 6)", argument, () -> x.drift(0, 6));
        check.refuses(x, "warden(7, 1, 1)", index, () -> x.warden(7, 1, 1));
        check.refuses(x, "warden(0, 10, 1)", argument, () -> x.warden(0, 10, 1));
        check.refuses(x, "warden(0, 1, 61)", argument, () -> x.warden(0, 1, 61));
        check.refuses(x, "set(2, 1)", index, () -> x.set(2, 1));
        check.refuses(x, "set(0, 100)", argument, () -> x.set(0, 100));
        check.refuses(x, "append(32)", argument, () -> x.append(32));
        check.refuses(x, "append(118)", state, () -> x.append('v'));
        check.refuses(x, "obey()", argument, x::obey);
        check.refuses(x, "dial(7, 0)", index, () -> x.dial(7, 0));
        check.refuses(x, "dial(0, 7)", argument, () -> x.dial(0, 7));
        check.refuses(x, "says(7, 0)", index, () -> x.says(7, 0));
        check.refuses(x, "says(0, 6)", argument, () -> x.says(0, 6));
        check.refuses(x, "count(14)", argument, () -> x.count(14));
        check.refuses(x, "setting(2)", index, () -> x.setting(2));
        check.refuses(x, "without(7)", index, () -> x.without(7));
        check.refuses(x, "wins(7)", index, () -> x.wins(7));
        check.refuses(x, "quarrelIn(7)", index, () -> x.quarrelIn(7));
        check.refuses(x, "ringsIn(7)", index, () -> x.ringsIn(7));
    }

    private static void refusedCallsSaveNothing() {
        check.promise(15, "Each method that is marked \"undoable\" and does not throw an exception saves the state from before it");
        DialWardens x = townThatRefuses();
        x.keep();
        while (x.count(13) > 0) {
            x.undo();
        }
        x.goBack();
        x.undo();
        check.refuses(x, "undo()", IllegalStateException.class, x::undo);
        x.goBack();
        refuseAll(x);
        check.same("saved states", x.count(13), 1);
        check.same("undo of the only one", x.undo(), 0);
    }

    /** At six saved states the count of them does not tell whether one more was saved. */
    private static void refusedCallsDropNothing() {
        check.promise(15, "A call that throws an exception changes nothing");
        DialWardens x = townThatRefuses();
        refuseAll(x);
        check.refuses(x, "goBack()", IllegalStateException.class, x::goBack);
        DialWardens twin = townThatRefuses();
        check.same("the digest", x.digest(), twin.digest());
        int time = 210;
        for (int i = 6; i >= 1; i--) {
            time -= 10 * i;
            check.same("undo of tick " + i, x.undo(), i - 1);
            check.same("true time", x.count(0), time);
        }
        check.same("the first of six states", x.count(0), 0);
        check.same("the buffer", x.clearBuffer(), 60);
        DialWardens y = townThatRefuses();
        y.keep();
        String kept = Towns.looks(y);
        y.tick(9);
        refuseAll(y);
        y.goBack();
        sameLooks("the snapshot", y, kept);
    }
}
