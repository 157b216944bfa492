/** Promises 1 to 4: a new object, tick, vote, correct. */
public final class TownTest {
    private static final Check check = new Check();

    public static void main(String[] args) {
        newObject();
        ticks();
        ticksAtTheTop();
        wrongTicks();
        votes();
        townNeverGoesBack();
        middleOfHalves();
        weightsOfZeroAreNotSaid();
        quarrelsCostWeight();
        quarrelsAlikeCostNothing();
        quarrelsAreByTheNewTime();
        weightsStayAtZero();
        noVoteWithoutWeights();
        corrections();
        correctionsRing();
        check.end();
    }

    private static void newObject() {
        DialWardens x = new DialWardens();
        for (int dial = 0; dial < 7; dial++) {
            for (int what = 0; what < 7; what++) {
                check.same("new dial " + dial + ", " + what, x.dial(dial, what), 0);
            }
            check.same("new weight " + dial, x.says(dial, 0), 3);
            for (int what = 1; what < 6; what++) {
                check.same("new warden " + dial + ", " + what, x.says(dial, what), what == 4 ? dial : 0);
            }
        }
        for (int what = 0; what < 14; what++) {
            check.same("new count " + what, x.count(what), what == 4 ? 21 : 0);
        }
        check.same("new setting 0", x.setting(0), 15);
        check.same("new setting 1", x.setting(1), 5);
        check.same("new buffer", x.clearBuffer(), 0);
        check.refuses(x, "goBack of a new object", IllegalStateException.class, x::goBack);
        check.refuses(x, "undo of a new object", IllegalStateException.class, x::undo);
        check.same("NONE", DialWardens.NONE, -1);
    }

    private static void ticks() {
        DialWardens x = new DialWardens();
        check.same("tick(5)", x.tick(5), 0);
        check.same("tick(1) to the full hour", x.tick(1), 7);
        check.same("true time", x.count(0), 60);
        check.same("minutes", x.dial(3, 0), 60);
        x.drift(2, -5);
        x.drift(4, 5);
        check.same("tick(12)", x.tick(12), 5 * 2 + 1 + 3);
        check.same("slow dial", x.dial(2, 0), 120);
        check.same("fast dial", x.dial(4, 0), 240);
        check.same("true time", x.count(0), 180);
        check.same("tick(99)", x.tick(99), 5 * 16 + 8 + 24);
        check.same("saved states", x.count(13), 6);
    }

    private static void ticksAtTheTop() {
        DialWardens x = new DialWardens();
        x.put(0, 99955);
        x.put(1, 99990);
        check.same("tick to 99965", x.tick(1), 1);
        check.same("a dial above the last hour", x.dial(0, 0), 99965);
        check.same("a dial at the top", x.dial(1, 0), 99999);
        x.tick(99);
        check.same("a dial that stays", x.dial(0, 0), 99999);
        check.same("bells at the top", x.dial(0, 4), 1666);
        check.same("account at the top", x.dial(1, 1), 99999);
        check.same("the true time goes on", x.count(0), 1000);
    }

    private static void wrongTicks() {
        DialWardens x = new DialWardens();
        x.tick(3);
        for (int ticks : new int[] {0, 100, -1, Integer.MIN_VALUE, Integer.MAX_VALUE}) {
            check.refuses(x, "tick(" + ticks + ")", IllegalArgumentException.class, () -> x.tick(ticks));
        }
    }

    private static void votes() {
        DialWardens x = new DialWardens();
        for (int dial = 0; dial < 7; dial++) {
            x.put(dial, 100 * (dial + 1));
        }
        x.set(0, 99);
        check.same("vote", x.vote(), 400);
        check.same("votes", x.count(6), 1);
        check.same("votes that held", x.count(7), 0);
        check.same("saved states", x.count(13), 6);
    }

    private static void townNeverGoesBack() {
        DialWardens x = new DialWardens();
        x.tick(20);
        check.same("vote", x.vote(), 200);
        check.same("the same again", x.vote(), 200);
        check.same("it held", x.count(7), 1);
        for (int dial = 0; dial < 7; dial++) {
            x.put(dial, 150);
        }
        check.same("a vote for less", x.vote(), 200);
        check.same("it held again", x.count(7), 2);
        x.tick(6);
        check.same("a vote for more", x.vote(), 210);
        check.same("it did not hold", x.count(7), 2);
        check.same("votes", x.count(6), 4);
    }

    /** Twice the weights that reach just all of them are enough. */
    private static void middleOfHalves() {
        DialWardens x = new DialWardens();
        for (int warden = 1; warden < 7; warden++) {
            x.warden(warden, 0, 0);
        }
        x.warden(0, 4, 10);
        x.warden(1, 4, 12);
        check.same("vote of halves", x.vote(), 10);
        x.warden(1, 5, 12);
        check.same("vote of more than half", x.vote(), 12);
    }

    private static void weightsOfZeroAreNotSaid() {
        DialWardens x = new DialWardens();
        for (int warden = 0; warden < 7; warden++) {
            x.warden(warden, 0, 20 + warden);
        }
        x.warden(6, 1, 60);
        check.same("the only one with a weight", x.vote(), 60);
    }

    private static void quarrelsCostWeight() {
        DialWardens x = new DialWardens();
        x.warden(0, 3, 16);
        x.warden(3, 3, 15);
        x.vote();
        check.same("weight of who quarrels with both", x.says(0, 0), 1);
        check.same("losses of it", x.says(0, 3), 2);
        check.same("weight of a neighbour", x.says(1, 0), 3);
        check.same("weight of who differs by just the setting", x.says(3, 0), 3);
        x.set(0, 14);
        x.vote();
        check.same("now it quarrels", x.says(3, 0), 1);
        check.same("not below 0", x.says(0, 0), 0);
        check.same("losses that happened", x.says(0, 3), 3);
    }

    private static void quarrelsAlikeCostNothing() {
        DialWardens x = new DialWardens();
        x.tick(10);
        x.warden(2, 3, 20);
        x.warden(3, 3, -20);
        x.vote();
        check.same("the town", x.count(1), 100);
        check.same("weight of 2: one of two quarrels costs", x.says(2, 0), 2);
        check.same("losses of 2", x.says(2, 3), 1);
        check.same("weight of 3", x.says(3, 0), 2);
        check.same("losses of 3", x.says(3, 3), 1);
        check.same("weight of 1", x.says(1, 0), 3);
        check.same("weight of 4", x.says(4, 0), 3);
    }

    /** The one whose word is the middle loses, as the town holds what is nearer to the other. */
    private static void quarrelsAreByTheNewTime() {
        DialWardens x = new DialWardens();
        x.tick(10);
        x.vote();
        for (int dial = 0; dial < 7; dial++) {
            x.put(dial, 20);
        }
        x.put(6, 90);
        x.vote();
        check.same("the town", x.count(1), 100);
        check.same("weight of 6", x.says(6, 0), 3);
        check.same("weight of 0, behind 6", x.says(0, 0), 2);
        check.same("weight of 5, before 6", x.says(5, 0), 2);
        check.same("weight of 1", x.says(1, 0), 3);
        DialWardens y = new DialWardens();
        for (int dial = 0; dial < 7; dial++) {
            y.put(dial, 500);
        }
        y.put(2, 100);
        y.vote();
        check.same("by the time after the vote", y.says(2, 0), 1);
        check.same("not by the time before it", y.says(1, 0) + y.says(3, 0), 6);
    }

    private static void weightsStayAtZero() {
        DialWardens x = new DialWardens();
        x.warden(5, 1, 60);
        x.vote();
        check.same("weight", x.says(5, 0), 0);
        check.same("losses", x.says(5, 3), 1);
        x.vote();
        check.same("weight, again", x.says(5, 0), 0);
        check.same("losses, again", x.says(5, 3), 1);
    }

    private static void noVoteWithoutWeights() {
        DialWardens x = new DialWardens();
        x.tick(9);
        for (int warden = 0; warden < 7; warden++) {
            x.warden(warden, 0, 0);
        }
        check.refuses(x, "vote without weights", IllegalStateException.class, x::vote);
        x.warden(3, 1, 0);
        check.same("vote with one weight", x.vote(), 90);
    }

    private static void corrections() {
        DialWardens x = new DialWardens();
        x.tick(20);
        x.vote();
        x.put(0, 205);
        x.put(1, 206);
        x.put(2, 195);
        x.put(3, 194);
        x.put(4, 0);
        x.put(5, 99999);
        check.same("correct", x.correct(), 1 + 1 + 195 + 99794);
        int[] due = {205, 205, 195, 195, 195, 205, 200};
        for (int dial = 0; dial < 7; dial++) {
            check.same("corrected dial " + dial, x.dial(dial, 0), due[dial]);
        }
        check.same("correct again", x.correct(), 0);
        check.same("it is saved, too", x.undo() + x.undo(), 5 + 4);
        check.same("the state before", x.dial(5, 0), 99999);
        x.set(1, 0);
        x.correct();
        for (int dial = 0; dial < 7; dial++) {
            check.same("strictly corrected dial " + dial, x.dial(dial, 0), 200);
        }
    }

    private static void correctionsRing() {
        DialWardens x = new DialWardens();
        x.tick(13);
        x.vote();
        int bells = x.count(8);
        x.put(0, 0);
        x.put(1, 190);
        check.same("a bell by hand", x.count(8), bells + 1);
        x.correct();
        check.same("two bells forward, none back", x.count(8), bells + 3);
        check.same("bells of dial 0", x.dial(0, 4), 4);
        check.same("bells of dial 1", x.dial(1, 4), 3);
    }
}
