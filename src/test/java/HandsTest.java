/** Promises 5 to 8: put, drift, warden, set. */
public final class HandsTest {
    private static final Check check = new Check();
    private static final int[] NO_NUMBERS = {-1, 7, 8, Integer.MIN_VALUE, Integer.MAX_VALUE};

    public static void main(String[] args) {
        put();
        wrongPut();
        drift();
        wrongDrift();
        warden();
        wrongWarden();
        set();
        wrongSet();
        check.end();
    }

    private static void put() {
        DialWardens x = new DialWardens();
        check.same("put(6, 59)", x.put(6, 59), 0);
        check.same("no bell", x.dial(6, 4), 0);
        check.same("put(6, 60)", x.put(6, 60), 59);
        check.same("a bell at the full hour", x.dial(6, 4), 1);
        check.same("put(6, 60) again", x.put(6, 60), 60);
        check.same("no bell without a move", x.dial(6, 4), 1);
        check.same("put(6, 0)", x.put(6, 0), 60);
        check.same("no bell back", x.dial(6, 4), 1);
        check.same("forward", x.count(9), 60);
        check.same("back", x.count(10), 60);
        check.same("put(6, 99999)", x.put(6, 99999), 0);
        check.same("bells to the top", x.dial(6, 4), 1667);
        check.same("saved states", x.count(13), 5);
        check.same("undo", x.undo(), 4);
        check.same("minutes behind undo", x.dial(6, 0), 0);
        check.same("bells behind undo", x.count(8), 1);
        check.same("other dials", x.dial(5, 0) + x.dial(0, 0), 0);
    }

    private static void wrongPut() {
        DialWardens x = new DialWardens();
        for (int dial : NO_NUMBERS) {
            check.refuses(x, "put(" + dial + ", 5)", IndexOutOfBoundsException.class, () -> x.put(dial, 5));
            check.refuses(x, "put(" + dial + ", -1)", IndexOutOfBoundsException.class, () -> x.put(dial, -1));
        }
        for (int minutes : new int[] {-1, 100000, Integer.MIN_VALUE, Integer.MAX_VALUE}) {
            check.refuses(x, "put(0, " + minutes + ")", IllegalArgumentException.class, () -> x.put(0, minutes));
        }
    }

    private static void drift() {
        DialWardens x = new DialWardens();
        check.same("drift(0, -5)", x.drift(0, -5), 0);
        check.same("drift(0, 5)", x.drift(0, 5), -5);
        check.same("drift(6, 1)", x.drift(6, 1), 0);
        check.same("drift(0, 5) again", x.drift(0, 5), 5);
        x.tick(2);
        check.same("a fast dial", x.dial(0, 0), 30);
        check.same("a true dial", x.dial(1, 0), 20);
        check.same("a dial with a drift of 1", x.dial(6, 0), 22);
        check.same("saved states", x.count(13), 5);
        x.undo();
        x.undo();
        x.undo();
        x.undo();
        check.same("drift behind undo", x.dial(0, 2), -5);
    }

    private static void wrongDrift() {
        DialWardens x = new DialWardens();
        for (int dial : NO_NUMBERS) {
            check.refuses(x, "drift(" + dial + ", 0)", IndexOutOfBoundsException.class, () -> x.drift(dial, 0));
            check.refuses(x, "drift(" + dial + ", 6)", IndexOutOfBoundsException.class, () -> x.drift(dial, 6));
        }
        for (int drift : new int[] {-6, 6, Integer.MIN_VALUE, Integer.MAX_VALUE}) {
            check.refuses(x, "drift(3, " + drift + ")", IllegalArgumentException.class, () -> x.drift(3, drift));
        }
    }

    private static void warden() {
        DialWardens x = new DialWardens();
        check.same("warden(6, 9, 60)", x.warden(6, 9, 60), 3);
        check.same("warden(6, 0, -60)", x.warden(6, 0, -60), 9);
        check.same("weight", x.says(6, 0), 0);
        check.same("lie", x.says(6, 1), -60);
        check.same("warden(0, 1, 7)", x.warden(0, 1, 7), 3);
        check.same("word", x.says(0, 2), 7);
        check.same("saved states", x.count(13), 3);
        x.undo();
        x.undo();
        check.same("weight behind undo", x.says(6, 0), 9);
        check.same("lie behind undo", x.says(6, 1), 60);
    }

    private static void wrongWarden() {
        DialWardens x = new DialWardens();
        for (int warden : NO_NUMBERS) {
            check.refuses(x, "warden(" + warden + ", 1, 1)", IndexOutOfBoundsException.class, () -> x.warden(warden, 1, 1));
            check.refuses(x, "warden(" + warden + ", 10, 61)", IndexOutOfBoundsException.class, () -> x.warden(warden, 10, 61));
        }
        for (int weight : new int[] {-1, 10, Integer.MIN_VALUE, Integer.MAX_VALUE}) {
            check.refuses(x, "warden(2, " + weight + ", 0)", IllegalArgumentException.class, () -> x.warden(2, weight, 0));
        }
        for (int lie : new int[] {-61, 61, Integer.MIN_VALUE, Integer.MAX_VALUE}) {
            check.refuses(x, "warden(2, 5, " + lie + ")", IllegalArgumentException.class, () -> x.warden(2, 5, lie));
        }
    }

    private static void set() {
        DialWardens x = new DialWardens();
        check.same("set(0, 0)", x.set(0, 0), 15);
        check.same("set(1, 99)", x.set(1, 99), 5);
        check.same("set(0, 99)", x.set(0, 99), 0);
        check.same("setting 0", x.setting(0), 99);
        check.same("setting 1", x.setting(1), 99);
        check.same("saved states", x.count(13), 3);
        x.undo();
        check.same("setting 0 behind undo", x.setting(0), 0);
    }

    private static void wrongSet() {
        DialWardens x = new DialWardens();
        for (int setting : new int[] {-1, 2, Integer.MIN_VALUE, Integer.MAX_VALUE}) {
            check.refuses(x, "set(" + setting + ", 1)", IndexOutOfBoundsException.class, () -> x.set(setting, 1));
            check.refuses(x, "set(" + setting + ", 100)", IndexOutOfBoundsException.class, () -> x.set(setting, 100));
        }
        for (int value : new int[] {-1, 100, Integer.MIN_VALUE, Integer.MAX_VALUE}) {
            check.refuses(x, "set(0, " + value + ")", IllegalArgumentException.class, () -> x.set(0, value));
            check.refuses(x, "set(1, " + value + ")", IllegalArgumentException.class, () -> x.set(1, value));
        }
    }
}
