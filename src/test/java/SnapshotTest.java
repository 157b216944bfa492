/** Promises 13 to 15: keep, goBack, undo; and which methods are undoable. */
public final class SnapshotTest {
    private static final Check check = new Check();

    public static void main(String[] args) {
        keepAndGoBack();
        snapshotsAndTheBuffer();
        undo();
        sixStatesAtMost();
        whatIsUndoable();
        check.end();
    }

    private static void keepAndGoBack() {
        DialWardens x = new DialWardens();
        x.tick(10);
        x.vote();
        check.same("keep", x.keep(), 100);
        check.same("keep saves no state", x.count(13), 2);
        x.drift(0, 5);
        x.warden(1, 9, 60);
        x.set(0, 1);
        x.tick(30);
        x.vote();
        x.correct();
        check.same("goBack", x.goBack(), 100);
        check.same("true time", x.count(0), 100);
        check.same("votes", x.count(6), 1);
        check.same("bells", x.count(8), 7);
        check.same("drift", x.dial(0, 2), 0);
        check.same("weight", x.says(1, 0), 3);
        check.same("setting", x.setting(0), 15);
        check.same("saved states", x.count(13), 6);
        x.undo();
        check.same("undo of goBack", x.count(0), 400);
        x.tick(1);
        check.same("the snapshot stays", x.goBack(), 100);
        check.same("and is unchanged", x.count(0), 100);
        x.tick(5);
        x.vote();
        check.same("keep again", x.keep(), 150);
        x.tick(5);
        check.same("in place of the one that was", x.goBack(), 150);
        check.same("true time", x.count(0), 150);
    }

    private static void snapshotsAndTheBuffer() {
        DialWardens x = new DialWardens();
        Check.append(x, "v;v");
        x.keep();
        x.append(';');
        x.goBack();
        check.same("goBack leaves the buffer", x.firstError(), 4);
        x.undo();
        check.same("undo leaves the buffer", x.clearBuffer(), 4);
        check.same("undo leaves the snapshot", x.goBack(), 0);
    }

    private static void undo() {
        DialWardens x = new DialWardens();
        long start = x.digest();
        x.tick(7);
        x.put(2, 300);
        long second = x.digest();
        x.vote();
        check.same("undo", x.undo(), 2);
        check.same("digest behind undo", x.digest(), second);
        check.same("undo", x.undo(), 1);
        check.same("undo", x.undo(), 0);
        check.same("digest at the start", x.digest(), start);
        check.refuses(x, "undo of nothing", IllegalStateException.class, x::undo);
        check.refuses(x, "goBack to nothing", IllegalStateException.class, x::goBack);
    }

    private static void sixStatesAtMost() {
        DialWardens x = new DialWardens();
        for (int i = 1; i <= 15; i++) {
            x.tick(i);
            check.same("saved states behind " + i, x.count(13), Math.min(i, 6));
        }
        int time = 1200;
        for (int i = 15; i > 9; i--) {
            time -= 10 * i;
            check.same("undo of " + i, x.undo(), i - 10);
            check.same("time behind undo of " + i, x.count(0), time);
        }
        check.refuses(x, "undo of the seventh", IllegalStateException.class, x::undo);
        x.tick(4);
        check.same("saved again", x.count(13), 1);
        check.same("undo again", x.undo(), 0);
        check.same("time", x.count(0), time);
    }

    private static void whatIsUndoable() {
        DialWardens x = new DialWardens();
        x.keep();
        check.same("keep", x.count(13), 0);
        x.correct();
        check.same("correct that moves none", x.count(13), 1);
        x.goBack();
        check.same("goBack", x.count(13), 2);
        x.set(0, 15);
        check.same("set to what it was", x.count(13), 3);
        x.warden(0, 3, 0);
        check.same("warden as it was", x.count(13), 4);
        x.drift(0, 0);
        check.same("drift as it was", x.count(13), 5);
        x.undo();
        x.undo();
        x.undo();
        x.put(0, 0);
        check.same("put where it was", x.count(13), 3);
        x.vote();
        check.same("vote", x.count(13), 4);
        Check.append(x, "c");
        check.same("append", x.count(13), 4);
        x.obey();
        check.same("obey", x.count(13), 5);
        x.clearBuffer();
        x.firstError();
        x.pivot();
        x.digest();
        check.same("looks", x.count(13), 5);
        check.refuses(x, "tick(0)", IllegalArgumentException.class, () -> x.tick(0));
        check.same("undo", x.undo(), 4);
    }
}
