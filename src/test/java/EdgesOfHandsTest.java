/** The boundaries of promises 5 to 8: put, drift, warden, set. */
public final class EdgesOfHandsTest {
    private static final Check check = new Check();

    public static void main(String[] args) {
        putInRange();
        putOutOfRange();
        putTellsTheMinutesBefore();
        putRings();
        putForwardAndBack();
        driftInRange();
        driftOutOfRange();
        wardenInRange();
        wardenOutOfRange();
        aRefusedWardenKeepsBoth();
        setInRange();
        setOutOfRange();
        whichExceptionIsThrown();
        check.end();
    }

    // ---- promise 5

    private static void putInRange() {
        for (int dial = 0; dial < 7; dial++) {
            DialWardens x = new DialWardens();
            check.promise(5, "0 to 6");
            check.same("put(" + dial + ", 1)", x.put(dial, 1), 0);
            check.same("dial(" + dial + ", 0)", x.dial(dial, 0), 1);
            check.same("the others", x.count(9), 1);
            check.promise(5, "0 to 99999");
            check.same("put(" + dial + ", 99999)", x.put(dial, 99999), 1);
            check.same("dial(" + dial + ", 0)", x.dial(dial, 0), 99999);
            check.same("put(" + dial + ", 99998)", x.put(dial, 99998), 99999);
            check.same("put(" + dial + ", 0)", x.put(dial, 0), 99998);
            check.same("dial(" + dial + ", 0)", x.dial(dial, 0), 0);
        }
    }

    private static void putOutOfRange() {
        DialWardens x = Towns.showing(30, 40);
        check.promise(5, "if there is no such dial");
        for (int dial : Towns.NO_DIALS) {
            check.refuses(x, "put(" + dial + ", 0)", IndexOutOfBoundsException.class, () -> x.put(dial, 0));
            check.refuses(x, "put(" + dial + ", 99999)", IndexOutOfBoundsException.class, () -> x.put(dial, 99999));
        }
        check.promise(5, "if minutes is out of range");
        for (int minutes : new int[] {-1, 100000, Integer.MIN_VALUE, Integer.MAX_VALUE}) {
            for (int dial : new int[] {0, 6}) {
                check.refuses(x, "put(" + dial + ", " + minutes + ")", IllegalArgumentException.class, () -> x.put(dial, minutes));
            }
        }
        check.same("saved states", x.count(13), 2);
    }

    private static void putTellsTheMinutesBefore() {
        check.promise(5, "Returns the minutes before");
        DialWardens x = new DialWardens();
        check.same("at first", x.put(3, 0), 0);
        x.tick(2);
        check.same("behind ticks", x.put(3, 99999), 20);
        x.tick(1);
        check.same("at the top", x.put(3, 99999), 99999);
        x.vote();
        x.correct();
        check.same("behind a correction", x.put(3, 1), 35);
    }

    private static void putRingsFrom(int start, int end, int due) {
        DialWardens x = new DialWardens();
        x.put(2, start);
        int bells = x.dial(2, 4);
        int all = x.count(8);
        x.put(2, end);
        check.same("bells from " + start + " to " + end, x.dial(2, 4) - bells, due);
        check.same("bells of all from " + start + " to " + end, x.count(8) - all, due);
        check.same("bells of others", x.dial(1, 4) + x.dial(3, 4), 0);
    }

    private static void putRings() {
        check.promise(5, "each full hour (a multiple of 60 above 0) that it comes to or passes when it goes forward");
        putRingsFrom(0, 0, 0);
        putRingsFrom(0, 1, 0);
        putRingsFrom(0, 59, 0);
        putRingsFrom(0, 60, 1);
        putRingsFrom(0, 61, 1);
        putRingsFrom(59, 60, 1);
        putRingsFrom(59, 61, 1);
        putRingsFrom(60, 60, 0);
        putRingsFrom(60, 61, 0);
        putRingsFrom(60, 119, 0);
        putRingsFrom(60, 120, 1);
        putRingsFrom(59, 119, 1);
        putRingsFrom(59, 120, 2);
        putRingsFrom(0, 99959, 1665);
        putRingsFrom(0, 99960, 1666);
        putRingsFrom(0, 99999, 1666);
        putRingsFrom(99959, 99999, 1);
        putRingsFrom(99960, 99999, 0);
        check.promise(5, "it rings as told above");
        putRingsFrom(60, 59, 0);
        putRingsFrom(61, 60, 0);
        putRingsFrom(61, 59, 0);
        putRingsFrom(121, 60, 0);
        putRingsFrom(60, 0, 0);
        putRingsFrom(99999, 0, 0);
    }

    private static void putForwardAndBack() {
        check.promise(5, "Moves a dial by hand");
        DialWardens x = Towns.showing(100);
        x.put(0, 100);
        check.same("not moved, forward", x.count(9), 100);
        check.same("not moved, back", x.count(10), 0);
        x.put(0, 101);
        check.same("1 forward", x.count(9), 101);
        check.same("none back", x.count(10), 0);
        x.put(0, 100);
        check.same("none forward", x.count(9), 101);
        check.same("1 back", x.count(10), 1);
        check.same("the account", x.dial(0, 1), 100);
        check.same("no drift", x.dial(0, 2), 0);
        check.same("no true time", x.count(0), 0);
    }

    // ---- promise 6

    private static void driftInRange() {
        for (int dial = 0; dial < 7; dial++) {
            DialWardens x = new DialWardens();
            check.promise(6, "0 to 6");
            check.same("drift(" + dial + ", 1)", x.drift(dial, 1), 0);
            check.same("dial(" + dial + ", 2)", x.dial(dial, 2), 1);
            x.tick(1);
            check.same("the fast one", x.dial(dial, 0), 11);
            check.same("another one", x.dial((dial + 1) % 7, 0), 10);
            check.promise(6, "-5 to 5");
            check.same("drift(" + dial + ", -5)", x.drift(dial, -5), 1);
            x.tick(1);
            check.same("behind a tick with -5", x.dial(dial, 0), 16);
            check.promise(6, "Returns the drift before");
            check.same("drift(" + dial + ", 5)", x.drift(dial, 5), -5);
            x.tick(1);
            check.same("behind a tick with 5", x.dial(dial, 0), 31);
            check.same("drift(" + dial + ", 0)", x.drift(dial, 0), 5);
            check.same("dial(" + dial + ", 2)", x.dial(dial, 2), 0);
        }
    }

    private static void driftOutOfRange() {
        DialWardens x = new DialWardens();
        x.drift(0, 5);
        x.drift(6, -5);
        check.promise(6, "if there is no such dial");
        for (int dial : Towns.NO_DIALS) {
            check.refuses(x, "drift(" + dial + ", 0)", IndexOutOfBoundsException.class, () -> x.drift(dial, 0));
        }
        check.promise(6, "if drift is out of range");
        for (int drift : new int[] {-6, 6, Integer.MIN_VALUE, Integer.MAX_VALUE}) {
            for (int dial : new int[] {0, 6}) {
                check.refuses(x, "drift(" + dial + ", " + drift + ")", IllegalArgumentException.class, () -> x.drift(dial, drift));
            }
        }
        check.same("saved states", x.count(13), 2);
    }

    // ---- promise 7

    private static void wardenInRange() {
        for (int warden = 0; warden < 7; warden++) {
            DialWardens x = Towns.allAt(100);
            check.promise(7, "0 to 6");
            check.same("warden(" + warden + ", 1, 2)", x.warden(warden, 1, 2), 3);
            check.same("says(" + warden + ", 0)", x.says(warden, 0), 1);
            check.same("says(" + warden + ", 1)", x.says(warden, 1), 2);
            check.same("all weights", x.count(4), 19);
            check.promise(7, "0 to 9");
            check.same("warden(" + warden + ", 9, 2)", x.warden(warden, 9, 2), 1);
            check.same("says(" + warden + ", 0)", x.says(warden, 0), 9);
            check.promise(7, "Returns the weight before");
            check.same("warden(" + warden + ", 0, 2)", x.warden(warden, 0, 2), 9);
            check.same("warden(" + warden + ", 0, -60)", x.warden(warden, 0, -60), 0);
            check.promise(7, "-60 to 60");
            check.same("says(" + warden + ", 1)", x.says(warden, 1), -60);
            check.same("the word with -60", x.says(warden, 2), 40);
            x.warden(warden, 0, 60);
            check.same("says(" + warden + ", 1)", x.says(warden, 1), 60);
            check.same("the word with 60", x.says(warden, 2), 160);
        }
    }

    private static void wardenOutOfRange() {
        DialWardens x = new DialWardens();
        check.promise(7, "if there is no such warden");
        for (int warden : Towns.NO_DIALS) {
            check.refuses(x, "warden(" + warden + ", 0, 0)", IndexOutOfBoundsException.class, () -> x.warden(warden, 0, 0));
        }
        check.promise(7, "if weight or lie is out of range");
        for (int weight : new int[] {-1, 10, Integer.MIN_VALUE, Integer.MAX_VALUE}) {
            check.refuses(x, "warden(0, " + weight + ", 0)", IllegalArgumentException.class, () -> x.warden(0, weight, 0));
            check.refuses(x, "warden(6, " + weight + ", 60)", IllegalArgumentException.class, () -> x.warden(6, weight, 60));
        }
        for (int lie : new int[] {-61, 61, Integer.MIN_VALUE, Integer.MAX_VALUE}) {
            check.refuses(x, "warden(0, 0, " + lie + ")", IllegalArgumentException.class, () -> x.warden(0, 0, lie));
            check.refuses(x, "warden(6, 9, " + lie + ")", IllegalArgumentException.class, () -> x.warden(6, 9, lie));
        }
        check.refuses(x, "warden(3, 10, 61)", IllegalArgumentException.class, () -> x.warden(3, 10, 61));
        check.refuses(x, "warden(3, -1, -61)", IllegalArgumentException.class, () -> x.warden(3, -1, -61));
        check.same("saved states", x.count(13), 0);
    }

    private static void aRefusedWardenKeepsBoth() {
        check.promise(7, "A call that throws an exception changes nothing");
        DialWardens x = new DialWardens();
        x.warden(2, 5, 6);
        check.refuses(x, "a wrong lie", IllegalArgumentException.class, () -> x.warden(2, 8, 61));
        check.same("the weight", x.says(2, 0), 5);
        check.refuses(x, "a wrong weight", IllegalArgumentException.class, () -> x.warden(2, 10, 7));
        check.same("the lie", x.says(2, 1), 6);
    }

    // ---- promise 8

    private static void setInRange() {
        DialWardens x = new DialWardens();
        check.promise(8, "0 or 1");
        check.same("set(0, 1)", x.set(0, 1), 15);
        check.same("set(1, 2)", x.set(1, 2), 5);
        check.same("setting(0)", x.setting(0), 1);
        check.same("setting(1)", x.setting(1), 2);
        for (int setting = 0; setting < 2; setting++) {
            check.promise(8, "0 to 99");
            check.same("set(" + setting + ", 99)", x.set(setting, 99), setting + 1);
            check.same("setting(" + setting + ")", x.setting(setting), 99);
            check.promise(8, "Returns the previous value");
            check.same("set(" + setting + ", 0)", x.set(setting, 0), 99);
            check.same("setting(" + setting + ")", x.setting(setting), 0);
            check.same("set(" + setting + ", 0) again", x.set(setting, 0), 0);
        }
    }

    private static void setOutOfRange() {
        DialWardens x = new DialWardens();
        check.promise(8, "if there is no such setting");
        for (int setting : Towns.NO_SETTINGS) {
            check.refuses(x, "set(" + setting + ", 0)", IndexOutOfBoundsException.class, () -> x.set(setting, 0));
        }
        check.promise(8, "if value is out of range");
        for (int value : new int[] {-1, 100, Integer.MIN_VALUE, Integer.MAX_VALUE}) {
            check.refuses(x, "set(0, " + value + ")", IllegalArgumentException.class, () -> x.set(0, value));
            check.refuses(x, "set(1, " + value + ")", IllegalArgumentException.class, () -> x.set(1, value));
        }
        check.same("saved states", x.count(13), 0);
    }

    private static void whichExceptionIsThrown() {
        DialWardens x = new DialWardens();
        Class<IndexOutOfBoundsException> first = IndexOutOfBoundsException.class;
        for (int no : Towns.NO_DIALS) {
            check.promise(5, "If several exceptions apply, the one that is named first in the throws clause is thrown");
            check.refuses(x, "put(" + no + ", -1)", first, () -> x.put(no, -1));
            check.refuses(x, "put(" + no + ", 100000)", first, () -> x.put(no, 100000));
            check.promise(6, "If several exceptions apply, the one that is named first in the throws clause is thrown");
            check.refuses(x, "drift(" + no + ", -6)", first, () -> x.drift(no, -6));
            check.refuses(x, "drift(" + no + ", 6)", first, () -> x.drift(no, 6));
            check.promise(7, "If several exceptions apply, the one that is named first in the throws clause is thrown");
            check.refuses(x, "warden(" + no + ", 10, 0)", first, () -> x.warden(no, 10, 0));
            check.refuses(x, "warden(" + no + ", 0, 61)", first, () -> x.warden(no, 0, 61));
            check.refuses(x, "warden(" + no + ", -1, -61)", first, () -> x.warden(no, -1, -61));
        }
        check.promise(8, "If several exceptions apply, the one that is named first in the throws clause is thrown");
        for (int no : Towns.NO_SETTINGS) {
            check.refuses(x, "set(" + no + ", -1)", first, () -> x.set(no, -1));
            check.refuses(x, "set(" + no + ", 100)", first, () -> x.set(no, 100));
        }
    }
}
