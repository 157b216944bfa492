/** The boundaries of promises 16 to 19: dial, says, count, setting. */
public final class EdgesOfLooksTest {
    private static final Check check = new Check();

    public static void main(String[] args) {
        dialsInRange();
        whatOfADial();
        toldByWhatWasDone();
        hours();
        bells();
        theTrueTimeOnBothSides();
        whatCorrectWouldMove();
        wardensInRange();
        whatOfAWarden();
        wordsAtBothEnds();
        lossesThatHappened();
        placesOfLikeOnes();
        twoNeighbours();
        whatOfTheTown();
        middlesOfNone();
        allWeights();
        pairsThatQuarrel();
        votesThatHeld();
        minutesMoved();
        dialsToMove();
        theTownAndTheTrueTime();
        savedStates();
        settingsInRange();
        whichExceptionIsThrown();
        nothingIsChanged();
        check.end();
    }

    // ---- promise 16

    private static void dialsInRange() {
        DialWardens x = Towns.showing(10, 20, 30, 40, 50, 60, 70);
        check.promise(16, "0 to 6");
        check.same("dial(0, 0)", x.dial(0, 0), 10);
        check.same("dial(6, 0)", x.dial(6, 0), 70);
        check.promise(16, "if there is no such dial");
        for (int dial : Towns.NO_DIALS) {
            for (int what = 0; what < 7; what++) {
                int asked = what;
                check.refuses(x, "dial(" + dial + ", " + what + ")", IndexOutOfBoundsException.class, () -> x.dial(dial, asked));
            }
        }
    }

    private static void whatOfADial() {
        DialWardens x = Towns.telling(130);
        x.drift(6, -5);
        x.put(6, 124);
        check.promise(16, "0: its minutes");
        check.same("dial(6, 0)", x.dial(6, 0), 124);
        check.promise(16, "6: 1 if correct() would move it now, otherwise 0");
        check.same("dial(6, 6)", x.dial(6, 6), 1);
        check.promise(16, "2: its drift");
        check.same("dial(6, 2)", x.dial(6, 2), -5);
        check.promise(16, "if what is not 0 to 6");
        for (int what : new int[] {-1, 7, 8, Integer.MIN_VALUE, Integer.MAX_VALUE}) {
            check.refuses(x, "dial(0, " + what + ")", IllegalArgumentException.class, () -> x.dial(0, what));
            check.refuses(x, "dial(6, " + what + ")", IllegalArgumentException.class, () -> x.dial(6, what));
        }
    }

    private static void account(DialWardens x, String what, int due) {
        check.same("the account " + what, x.dial(1, 1), due);
        check.same("the minutes " + what, x.dial(1, 0), due);
    }

    private static void toldByWhatWasDone() {
        check.promise(16, "what ticks brought so far, and what it was moved forward, less what it was moved back, by correct() and put()");
        DialWardens x = new DialWardens();
        account(x, "at first", 0);
        x.drift(1, -5);
        x.tick(1);
        account(x, "behind a slow tick", 5);
        x.drift(1, 5);
        x.tick(1);
        account(x, "behind a fast tick", 20);
        x.put(1, 20);
        account(x, "put where it is", 20);
        x.put(1, 0);
        account(x, "at 0", 0);
        x.put(1, 99999);
        account(x, "put to the top", 99999);
        x.tick(1);
        account(x, "behind a tick at the top", 99999);
        x.put(1, 99990);
        x.tick(1);
        account(x, "behind a tick to the top", 99999);
        x.vote();
        x.correct();
        account(x, "corrected back", 45);
        x.put(1, 0);
        x.correct();
        account(x, "corrected forward", 35);
        x.undo();
        account(x, "behind undo", 0);
    }

    private static void hours() {
        check.promise(16, "its hour, the minutes divided by 60");
        int[] minutes = {0, 1, 59, 60, 61, 119, 120, 99959, 99960, 99999};
        int[] due = {0, 0, 0, 1, 1, 1, 2, 1665, 1666, 1666};
        DialWardens x = new DialWardens();
        for (int i = 0; i < due.length; i++) {
            x.put(5, minutes[i]);
            check.same("the hour of " + minutes[i], x.dial(5, 3), due[i]);
        }
        check.promise(16, "divisions are rounded down (none is of a number below 0)");
        x.put(5, 59);
        check.same("the hour of 59", x.dial(5, 3), 0);
    }

    private static void bells() {
        check.promise(16, "bells that it rang so far");
        DialWardens x = new DialWardens();
        x.put(2, 59);
        check.same("below the hour", x.dial(2, 4), 0);
        x.put(2, 60);
        check.same("at the hour", x.dial(2, 4), 1);
        x.put(2, 59);
        check.same("none back", x.dial(2, 4), 1);
        x.tick(1);
        check.same("the same hour again", x.dial(2, 4), 2);
        check.same("the hour is not the bells", x.dial(2, 3), 1);
        check.same("bells of others", x.dial(1, 4) + x.dial(3, 4), 0);
        x.undo();
        check.same("behind undo", x.dial(2, 4), 1);
    }

    private static void theTrueTimeOnBothSides() {
        check.promise(16, "by how much it differs from the true time (0 or more)");
        DialWardens x = new DialWardens();
        x.tick(10);
        int[] minutes = {0, 99, 100, 101, 99999};
        int[] due = {100, 1, 0, 1, 99899};
        for (int i = 0; i < due.length; i++) {
            x.put(4, minutes[i]);
            check.same("the difference of " + minutes[i], x.dial(4, 5), due[i]);
        }
    }

    private static void whatCorrectWouldMove() {
        check.promise(16, "1 if correct() would move it now, otherwise 0");
        for (int setting : new int[] {0, 5, 99}) {
            DialWardens x = Towns.telling(200);
            x.set(1, setting);
            int[] minutes = {200 - setting - 1, 200 - setting, 200, 200 + setting, 200 + setting + 1, 0, 99999};
            int[] due = {1, 0, 0, 0, 1, 1, 1};
            for (int i = 0; i < due.length; i++) {
                x.put(3, minutes[i]);
                check.same(minutes[i] + " with the setting " + setting, x.dial(3, 6), due[i]);
                check.same("correct of " + minutes[i], x.correct() > 0 ? 1 : 0, due[i]);
                check.same("behind correct", x.dial(3, 6), 0);
            }
        }
        DialWardens y = new DialWardens();
        y.tick(1);
        check.same("by what the town tells, not the true time", y.dial(0, 6), 1);
    }

    // ---- promise 17

    private static void wardensInRange() {
        DialWardens x = Towns.showing(10, 20, 30, 40, 50, 60, 70);
        check.promise(17, "0 to 6");
        check.same("says(0, 2)", x.says(0, 2), 10);
        check.same("says(6, 2)", x.says(6, 2), 70);
        check.promise(17, "if there is no such warden");
        for (int warden : Towns.NO_DIALS) {
            for (int what = 0; what < 6; what++) {
                int asked = what;
                check.refuses(x, "says(" + warden + ", " + what + ")", IndexOutOfBoundsException.class, () -> x.says(warden, asked));
            }
        }
    }

    private static void whatOfAWarden() {
        DialWardens x = new DialWardens();
        x.warden(6, 9, -60);
        x.warden(5, 0, 60);
        check.promise(17, "0: its weight");
        check.same("says(6, 0)", x.says(6, 0), 9);
        check.same("says(5, 0)", x.says(5, 0), 0);
        check.promise(17, "1: its lie (it can be below 0)");
        check.same("says(6, 1)", x.says(6, 1), -60);
        check.same("says(5, 1)", x.says(5, 1), 60);
        check.promise(17, "2: what it says now");
        check.same("says(5, 2)", x.says(5, 2), 60);
        check.same("says(6, 2)", x.says(6, 2), 0);
        check.promise(17, "5: with how many of its two neighbours it quarrels now");
        check.same("says(5, 5)", x.says(5, 5), 2);
        check.promise(17, "if what is not 0 to 5");
        for (int what : new int[] {-1, 6, 7, Integer.MIN_VALUE, Integer.MAX_VALUE}) {
            check.refuses(x, "says(0, " + what + ")", IllegalArgumentException.class, () -> x.says(0, what));
            check.refuses(x, "says(6, " + what + ")", IllegalArgumentException.class, () -> x.says(6, what));
        }
    }

    private static void wordsAtBothEnds() {
        check.promise(17, "but at least 0 and at most 99999");
        int[][] rows = {
            {0, -1, 0}, {0, 0, 0}, {0, 1, 1}, {59, -60, 0}, {60, -60, 0}, {61, -60, 1}, {0, -60, 0}, {0, 60, 60},
            {99938, 60, 99998}, {99939, 60, 99999}, {99940, 60, 99999}, {99999, 60, 99999}, {99999, 1, 99999},
            {99999, 0, 99999}, {99999, -1, 99998}, {99999, -60, 99939}
        };
        DialWardens x = new DialWardens();
        for (int[] row : rows) {
            x.put(2, row[0]);
            x.warden(2, 0, row[1]);
            check.same(row[0] + " with the lie " + row[1], x.says(2, 2), row[2]);
        }
    }

    private static void lossesThatHappened() {
        check.promise(17, "how often its weight became less by quarrels so far");
        for (int weight = 0; weight <= 9; weight++) {
            DialWardens x = Towns.allAt(200);
            x.put(3, 300);
            x.warden(3, weight, 0);
            check.same("before a vote", x.says(3, 3), 0);
            x.vote();
            check.same("behind a vote with the weight " + weight, x.says(3, 3), Math.min(weight, 2));
            x.vote();
            check.same("behind two votes with the weight " + weight, x.says(3, 3), Math.min(weight, 4));
            check.same("and it became less by as much", x.says(3, 0), weight - Math.min(weight, 4));
        }
        DialWardens y = new DialWardens();
        y.warden(0, 0, 0);
        check.same("less by hand, not by quarrels", y.says(0, 3), 0);
    }

    private static void places(int[] words, int... due) {
        DialWardens x = Towns.showing(words);
        for (int warden = 0; warden < 7; warden++) {
            check.same("the place of " + warden, x.says(warden, 4), due[warden]);
        }
    }

    private static void placesOfLikeOnes() {
        check.promise(17, "its place among the wardens, from 0, by what they say, the least one first, of like ones the lower number");
        places(new int[] {5, 5, 5, 5, 5, 5, 5}, 0, 1, 2, 3, 4, 5, 6);
        places(new int[] {7, 6, 5, 4, 3, 2, 1}, 6, 5, 4, 3, 2, 1, 0);
        places(new int[] {1, 2, 3, 4, 5, 6, 7}, 0, 1, 2, 3, 4, 5, 6);
        places(new int[] {5, 4, 5, 6, 5, 4, 6}, 2, 0, 3, 5, 4, 1, 6);
        places(new int[] {0, 99999, 0, 99999, 99998, 1, 0}, 0, 5, 1, 6, 4, 3, 2);
        DialWardens x = new DialWardens();
        x.warden(0, 0, 1);
        check.same("also with the weight 0", x.says(0, 4), 6);
        x.warden(3, 9, -1);
        check.same("a word not below 0 is like the others", x.says(3, 4), 2);
    }

    private static void twoNeighbours() {
        check.promise(17, "with how many of its two neighbours it quarrels now");
        for (int setting : new int[] {0, 15, 99}) {
            for (int warden = 0; warden < 7; warden++) {
                DialWardens x = Towns.allAt(200);
                int next = (warden + 1) % 7;
                int before = (warden + 6) % 7;
                x.set(0, setting);
                x.put(warden, 200 + setting);
                check.same("none, " + setting + " more", x.says(warden, 5) + x.says(next, 5) + x.says(before, 5), 0);
                x.put(warden, 200 - setting);
                check.same("none, " + setting + " less", x.says(warden, 5) + x.says(next, 5) + x.says(before, 5), 0);
                x.put(warden, 200 + setting + 1);
                check.same("both", x.says(warden, 5), 2);
                check.same("the next one", x.says(next, 5), 1);
                check.same("the one before", x.says(before, 5), 1);
                check.same("the one behind the next", x.says((warden + 2) % 7, 5), 0);
                x.put(next, 201);
                check.same("the one before alone", x.says(warden, 5), 1);
                check.same("no more the next one", x.says(next, 5), setting == 0 ? 1 : 0);
                x.put(warden, 199 - setting);
                x.put(next, 199);
                check.same("less than the one before", x.says(warden, 5), 1);
            }
        }
    }

    // ---- promise 18

    private static void whatOfTheTown() {
        DialWardens x = new DialWardens();
        x.tick(3);
        x.vote();
        x.tick(2);
        check.promise(18, "0: the true time");
        check.same("count(0)", x.count(0), 50);
        check.promise(18, "1: what the town tells");
        check.same("count(1)", x.count(1), 30);
        check.promise(18, "13: saved states");
        check.same("count(13)", x.count(13), 3);
        check.promise(18, "if what is not 0 to 13");
        for (int what : new int[] {-1, 14, 15, Integer.MIN_VALUE, Integer.MAX_VALUE}) {
            check.refuses(x, "count(" + what + ")", IllegalArgumentException.class, () -> x.count(what));
        }
    }

    private static void middlesOfNone() {
        check.promise(18, "(2 and 3: NONE if all weights are 0;)");
        for (int warden = 0; warden < 7; warden++) {
            DialWardens x = Towns.saying(Towns.weights(0, 0, 0, 0, 0, 0, 0), 10, 20, 30, 40, 50, 60, 70);
            check.same("count(3)", x.count(3), DialWardens.NONE);
            check.same("count(2)", x.count(2), DialWardens.NONE);
            x.warden(warden, 1, 0);
            check.same("count(3) with one weight", x.count(3), 10 * warden + 10);
            check.same("count(2) with one weight", x.count(2), 10 * warden + 10);
        }
        DialWardens y = new DialWardens();
        check.same("a middle of 0 by adding is not NONE", y.count(3), 0);
        check.same("a middle of 0 by order is not NONE", y.count(2), 0);
        check.promise(18, "2: the middle of a vote now, told by putting the wardens in order; "
            + "3: the same, told by adding up, for each warden, the weights of those who say less, and as much");
        DialWardens z = Towns.saying(Towns.weights(0, 2, 1, 1, 0, 0, 0), 10, 20, 20, 30, 15, 20, 25);
        check.same("count(3), the weights of like ones", z.count(3), 20);
        check.same("count(2), the weights of like ones", z.count(2), 20);
        z.warden(3, 3, 0);
        check.same("count(3), just half", z.count(3), 20);
        check.same("count(2), just half", z.count(2), 20);
        z.warden(3, 4, 0);
        check.same("count(3), less than half", z.count(3), 30);
        check.same("count(2), less than half", z.count(2), 30);
    }

    private static void allWeights() {
        check.promise(18, "4: all weights together");
        DialWardens x = new DialWardens();
        check.same("at first", x.count(4), 21);
        Towns.weigh(x, 9, 9, 9, 9, 9, 9, 9);
        check.same("the most", x.count(4), 63);
        Towns.weighNothing(x);
        check.same("the least", x.count(4), 0);
        x.warden(6, 1, 0);
        check.same("one", x.count(4), 1);
    }

    private static void pairsThatQuarrel() {
        check.promise(18, "5: pairs of neighbours that quarrel now");
        check.same("none", new DialWardens().count(5), 0);
        check.same("all seven", Towns.showing(0, 100, 0, 100, 0, 100, 200).count(5), 7);
        check.same("all but one", Towns.showing(0, 100, 0, 100, 0, 100, 0).count(5), 6);
        for (int one = 0; one < 7; one++) {
            int[] words = new int[7];
            for (int i = 0; i < 7; i++) {
                words[(one + 1 + i) % 7] = 200 + 5 * i;
            }
            words[one] = 215;
            check.same("15 apart: " + one, Towns.showing(words).count(5), 0);
            words[one] = 216;
            check.same("16 apart: " + one, Towns.showing(words).count(5), 1);
        }
    }

    private static void votesThatHeld() {
        check.promise(18, "7: of these those in which the town held");
        DialWardens x = new DialWardens();
        x.vote();
        check.same("votes", x.count(6), 1);
        check.same("the first one, for 0, held", x.count(7), 1);
        x.tick(1);
        x.vote();
        check.same("one for more did not", x.count(7), 1);
        x.vote();
        check.same("one for as much held", x.count(7), 2);
        x.put(0, 0);
        x.put(1, 0);
        x.put(2, 0);
        x.put(3, 9);
        x.vote();
        check.same("one for 1 less held", x.count(7), 3);
        for (int dial = 3; dial < 7; dial++) {
            x.put(dial, 11);
        }
        x.vote();
        check.same("one for 1 more did not", x.count(7), 3);
        check.promise(18, "6: votes so far");
        check.same("votes", x.count(6), 5);
        x.undo();
        check.same("votes behind undo", x.count(6), 4);
    }

    private static void moved(DialWardens x, String what, int bells, int forward, int back) {
        check.promise(18, "8: bells so far");
        check.same("bells " + what, x.count(8), bells);
        check.promise(18, "9: minutes moved forward so far, by correct() and put()");
        check.same("forward " + what, x.count(9), forward);
        check.promise(18, "10: minutes moved back so far");
        check.same("back " + what, x.count(10), back);
    }

    private static void minutesMoved() {
        DialWardens x = new DialWardens();
        x.tick(6);
        moved(x, "behind ticks", 7, 0, 0);
        x.put(0, 60);
        moved(x, "not moved", 7, 0, 0);
        x.put(0, 61);
        x.put(1, 59);
        moved(x, "moved by 1", 7, 1, 1);
        x.vote();
        x.correct();
        moved(x, "not corrected", 7, 1, 1);
        x.put(1, 54);
        x.put(0, 66);
        x.correct();
        moved(x, "corrected by 1", 7, 1 + 5 + 1, 1 + 5 + 1);
        x.undo();
        moved(x, "behind undo", 7, 1 + 5, 1 + 5);
    }

    private static void dialsToMove() {
        check.promise(18, "11: dials that correct() would move now");
        DialWardens x = Towns.telling(200);
        check.same("none", x.count(11), 0);
        int[] minutes = {194, 206, 0, 99999, 193, 207, 201};
        for (int dial = 0; dial < 6; dial++) {
            x.put(dial, minutes[dial]);
            check.same("dials behind " + dial, x.count(11), dial + 1);
        }
        x.put(6, 205);
        check.same("just not above", x.count(11), 6);
        x.put(6, 195);
        check.same("just not below", x.count(11), 6);
        x.put(6, 206);
        check.same("all", x.count(11), 7);
        x.correct();
        check.same("behind correct", x.count(11), 0);
    }

    private static void theTownAndTheTrueTime() {
        check.promise(18, "12: by how much the town differs from the true time (0 or more)");
        DialWardens x = new DialWardens();
        check.same("at first", x.count(12), 0);
        x.tick(1);
        check.same("the town is behind", x.count(12), 10);
        for (int dial = 0; dial < 7; dial++) {
            x.put(dial, 9);
        }
        x.vote();
        check.same("1 behind", x.count(12), 1);
        for (int dial = 0; dial < 7; dial++) {
            x.put(dial, 11);
        }
        x.vote();
        check.same("1 ahead", x.count(12), 1);
        DialWardens y = Towns.telling(99999);
        check.same("far ahead", y.count(12), 99999);
        y.tick(1);
        check.same("not so far", y.count(12), 99989);
    }

    private static void savedStates() {
        check.promise(18, "At most 6 states are saved");
        DialWardens x = new DialWardens();
        check.same("at first", x.count(13), 0);
        for (int calls = 1; calls <= 9; calls++) {
            x.correct();
            check.same("behind " + calls, x.count(13), Math.min(calls, 6));
        }
        for (int left = 5; left >= 0; left--) {
            x.undo();
            check.same("behind undo", x.count(13), left);
        }
    }

    // ---- promise 19

    private static void settingsInRange() {
        DialWardens x = new DialWardens();
        check.promise(19, "0 or 1");
        check.same("setting(0)", x.setting(0), 15);
        check.same("setting(1)", x.setting(1), 5);
        check.promise(19, "Returns its value");
        x.set(0, 0);
        x.set(1, 99);
        check.same("setting(0)", x.setting(0), 0);
        check.same("setting(1)", x.setting(1), 99);
        check.promise(19, "if there is no such setting");
        for (int setting : Towns.NO_SETTINGS) {
            check.refuses(x, "setting(" + setting + ")", IndexOutOfBoundsException.class, () -> x.setting(setting));
        }
    }

    private static void whichExceptionIsThrown() {
        DialWardens x = new DialWardens();
        for (int no : Towns.NO_DIALS) {
            check.promise(16, "If several exceptions apply, the one that is named first in the throws clause is thrown");
            check.refuses(x, "dial(" + no + ", 7)", IndexOutOfBoundsException.class, () -> x.dial(no, 7));
            check.refuses(x, "dial(" + no + ", -1)", IndexOutOfBoundsException.class, () -> x.dial(no, -1));
            check.promise(17, "If several exceptions apply, the one that is named first in the throws clause is thrown");
            check.refuses(x, "says(" + no + ", 6)", IndexOutOfBoundsException.class, () -> x.says(no, 6));
            check.refuses(x, "says(" + no + ", -1)", IndexOutOfBoundsException.class, () -> x.says(no, -1));
        }
    }

    private static void nothingIsChanged() {
        check.promise(18, "---- looks; nothing is changed");
        DialWardens x = Towns.telling(100);
        x.undo();
        x.drift(0, 5);
        x.put(6, 0);
        x.append('v');
        long before = x.digest();
        String looks = Towns.looks(x);
        check.same("the looks again", Towns.looks(x).compareTo(looks), 0);
        check.same("the digest behind them", x.digest(), before);
        check.refuses(x, "goBack behind them", IllegalStateException.class, x::goBack);
    }
}
