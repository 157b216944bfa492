/** Promises 16 to 19: dial, says, count, setting. */
public final class LooksTest {
    private static final Check check = new Check();
    private static final int[] NO_NUMBERS = {-1, 7, 8, Integer.MIN_VALUE, Integer.MAX_VALUE};

    public static void main(String[] args) {
        dials();
        wrongDials();
        words();
        places();
        quarrels();
        wrongWardens();
        counts();
        middlesWithoutWeights();
        middlesAgree();
        wrongCounts();
        settings();
        check.end();
    }

    private static void numbersOfDial(DialWardens x, int dial, int... due) {
        for (int what = 0; what < due.length; what++) {
            check.same("dial(" + dial + ", " + what + ")", x.dial(dial, what), due[what]);
        }
    }

    private static void dials() {
        DialWardens x = new DialWardens();
        x.drift(0, 5);
        x.drift(1, -5);
        x.tick(13);
        x.vote();
        numbersOfDial(x, 0, 195, 195, 5, 3, 3, 65, 1);
        numbersOfDial(x, 1, 65, 65, -5, 1, 1, 65, 1);
        numbersOfDial(x, 2, 130, 130, 0, 2, 2, 0, 0);
        x.put(2, 135);
        numbersOfDial(x, 2, 135, 135, 0, 2, 2, 5, 0);
        x.put(2, 136);
        numbersOfDial(x, 2, 136, 136, 0, 2, 2, 6, 1);
        x.put(2, 124);
        numbersOfDial(x, 2, 124, 124, 0, 2, 2, 6, 1);
        x.correct();
        numbersOfDial(x, 0, 135, 135, 5, 2, 3, 5, 0);
        numbersOfDial(x, 1, 125, 125, -5, 2, 2, 5, 0);
        numbersOfDial(x, 2, 125, 125, 0, 2, 2, 5, 0);
        x.put(3, 99999);
        x.tick(2);
        numbersOfDial(x, 3, 99999, 99999, 0, 1666, 1666, 99849, 1);
    }

    private static void wrongDials() {
        DialWardens x = new DialWardens();
        for (int dial : NO_NUMBERS) {
            check.refuses(x, "dial(" + dial + ", 0)", IndexOutOfBoundsException.class, () -> x.dial(dial, 0));
            check.refuses(x, "dial(" + dial + ", 9)", IndexOutOfBoundsException.class, () -> x.dial(dial, 9));
            check.refuses(x, "dial(0, " + dial + ")", IllegalArgumentException.class, () -> x.dial(0, dial));
        }
    }

    private static void words() {
        DialWardens x = new DialWardens();
        x.warden(0, 2, -60);
        x.warden(1, 3, 60);
        check.same("a word not below 0", x.says(0, 2), 0);
        check.same("lie", x.says(0, 1), -60);
        x.put(0, 61);
        check.same("a word above 0", x.says(0, 2), 1);
        x.put(1, 99940);
        check.same("a word above the top", x.says(1, 2), 99999);
        x.put(1, 99938);
        check.same("a word below the top", x.says(1, 2), 99998);
        check.same("weight", x.says(0, 0), 2);
    }

    private static void places() {
        DialWardens x = new DialWardens();
        int[] minutes = {50, 20, 50, 10, 99, 20, 50};
        int[] due = {3, 1, 4, 0, 6, 2, 5};
        for (int dial = 0; dial < 7; dial++) {
            x.put(dial, minutes[dial]);
        }
        for (int warden = 0; warden < 7; warden++) {
            check.same("place of " + warden, x.says(warden, 4), due[warden]);
        }
        x.warden(4, 0, -60);
        check.same("by the word, not the dial", x.says(4, 4), 3);
    }

    private static void quarrels() {
        DialWardens x = new DialWardens();
        x.put(6, 15);
        check.same("none by the setting", x.says(6, 5), 0);
        check.same("no pairs", x.count(5), 0);
        x.put(6, 16);
        check.same("with both", x.says(6, 5), 2);
        check.same("the one behind", x.says(0, 5), 1);
        check.same("the one before", x.says(5, 5), 1);
        check.same("none", x.says(1, 5), 0);
        check.same("pairs", x.count(5), 2);
        x.warden(0, 0, 1);
        check.same("with one", x.says(6, 5), 1);
        check.same("pairs", x.count(5), 1);
        x.set(0, 0);
        check.same("pairs with the setting 0", x.count(5), 3);
    }

    private static void wrongWardens() {
        DialWardens x = new DialWardens();
        for (int warden : NO_NUMBERS) {
            check.refuses(x, "says(" + warden + ", 0)", IndexOutOfBoundsException.class, () -> x.says(warden, 0));
            check.refuses(x, "says(" + warden + ", 6)", IndexOutOfBoundsException.class, () -> x.says(warden, 6));
        }
        for (int what : new int[] {-1, 6, 7, Integer.MIN_VALUE, Integer.MAX_VALUE}) {
            check.refuses(x, "says(0, " + what + ")", IllegalArgumentException.class, () -> x.says(0, what));
        }
    }

    private static void counts() {
        DialWardens x = new DialWardens();
        x.tick(12);
        x.put(0, 200);
        x.put(1, 90);
        x.vote();
        x.vote();
        x.warden(4, 9, 20);
        check.same("true time", x.count(0), 120);
        check.same("the town", x.count(1), 120);
        check.same("middle by order", x.count(2), 120);
        check.same("middle by adding", x.count(3), 120);
        check.same("all weights", x.count(4), 0 + 1 + 3 * 4 + 9);
        check.same("pairs that quarrel", x.count(5), 5);
        check.same("votes", x.count(6), 2);
        check.same("votes that held", x.count(7), 1);
        check.same("bells", x.count(8), 15);
        check.same("forward", x.count(9), 80);
        check.same("back", x.count(10), 30);
        check.same("dials that correct() would move", x.count(11), 2);
        check.same("the town is right", x.count(12), 0);
        check.same("saved states", x.count(13), 6);
        x.tick(1);
        check.same("the town is behind", x.count(12), 10);
        x.put(2, 99999);
        x.warden(2, 9, 0);
        for (int warden = 3; warden < 7; warden++) {
            x.warden(warden, 0, 0);
        }
        x.vote();
        check.same("the town is ahead", x.count(12), 99999 - 130);
    }

    private static void middlesWithoutWeights() {
        DialWardens x = new DialWardens();
        x.tick(3);
        for (int warden = 0; warden < 7; warden++) {
            x.warden(warden, 0, 0);
        }
        check.same("middle by order", x.count(2), -1);
        check.same("middle by adding", x.count(3), -1);
        check.same("all weights", x.count(4), 0);
        x.warden(6, 1, 5);
        check.same("middle by order", x.count(2), 35);
        check.same("middle by adding", x.count(3), 35);
    }

    /** Also for words that several say, with and without a weight. */
    private static void middlesAgree() {
        int[][] weights = {{1, 1, 1, 1, 0, 0, 0}, {0, 2, 0, 1, 0, 1, 0}, {9, 0, 0, 0, 0, 0, 9}, {1, 2, 3, 4, 5, 6, 7}, {0, 0, 1, 1, 0, 0, 0}};
        int[][] words = {{1, 2, 3, 4, 0, 2, 3}, {7, 5, 5, 9, 9, 8, 6}, {3, 2, 2, 2, 2, 2, 1}, {5, 5, 4, 4, 3, 3, 3}, {4, 4, 4, 4, 4, 4, 4}};
        int[] due = {2, 5, 1, 3, 4};
        int[] moved = {3, 5, 1, 3, 4};
        for (int row = 0; row < due.length; row++) {
            DialWardens x = new DialWardens();
            for (int warden = 0; warden < 7; warden++) {
                x.warden(warden, weights[row][warden], words[row][warden]);
            }
            check.same("middle by adding of row " + row, x.count(3), due[row]);
            check.same("middle by order of row " + row, x.count(2), due[row]);
            x.put(0, 99999);
            check.same("middle by adding of the moved row " + row, x.count(3), moved[row]);
        }
    }

    private static void wrongCounts() {
        DialWardens x = new DialWardens();
        for (int what : new int[] {-1, 14, 15, Integer.MIN_VALUE, Integer.MAX_VALUE}) {
            check.refuses(x, "count(" + what + ")", IllegalArgumentException.class, () -> x.count(what));
        }
    }

    private static void settings() {
        DialWardens x = new DialWardens();
        check.same("setting(0)", x.setting(0), 15);
        check.same("setting(1)", x.setting(1), 5);
        x.set(1, 7);
        check.same("setting(1)", x.setting(1), 7);
        check.same("setting(0)", x.setting(0), 15);
        for (int setting : new int[] {-1, 2, 3, Integer.MIN_VALUE, Integer.MAX_VALUE}) {
            check.refuses(x, "setting(" + setting + ")", IndexOutOfBoundsException.class, () -> x.setting(setting));
        }
    }
}
