/** The boundaries of promises 20 to 27: without, pivot, wins, quarrelIn, ringsIn, heldShare, meanError, digest. */
public final class EdgesOfWouldBeTest {
    private static final Check check = new Check();

    public static void main(String[] args) {
        numbersInRange();
        noSuchNumbers();
        withoutTheOnlyOne();
        withoutOneOfTwoHalves();
        pivotAlsoWithoutAWeight();
        pivotOfSeveralTheLowest();
        pivotLeavesOut();
        winsFromOneToNine();
        winsBesideLikeOnes();
        quarrelsNow();
        quarrelsWithin200();
        quarrelsForTheFirstTime();
        quarrelsOfEachPair();
        quarrelsAtTheTop();
        ringsInOneOrMore();
        ringsNoMore();
        heldShareWithoutVotes();
        meanErrorOnBothSides();
        digestOfANewObject();
        digestOfTheBuffer();
        digestOfTheSnapshot();
        digestOfTheShares();
        nothingIsChanged();
        check.end();
    }

    private static void numbersInRange() {
        DialWardens x = Towns.saying(Towns.weights(3, 1, 1, 1, 1, 1, 3), 59, 100, 100, 100, 100, 100, 110);
        check.promise(20, "0 to 6");
        check.same("without(0)", x.without(0), 100);
        check.same("without(6)", x.without(6), 100);
        check.promise(22, "0 to 6");
        check.same("wins(0)", x.wins(0), 8);
        check.same("wins(6)", x.wins(6), 9);
        check.promise(23, "0 to 6: this one and the one behind it");
        check.same("quarrelIn(0)", x.quarrelIn(0), 0);
        check.same("quarrelIn(5)", x.quarrelIn(5), -1);
        check.same("quarrelIn(6)", x.quarrelIn(6), 0);
        check.promise(24, "0 to 6");
        check.same("ringsIn(0)", x.ringsIn(0), 1);
        check.same("ringsIn(5)", x.ringsIn(5), 2);
        check.same("ringsIn(6)", x.ringsIn(6), 1);
    }

    private static void noSuchNumbers() {
        DialWardens x = Towns.showing(1, 2, 3, 4, 5, 6, 7);
        for (int no : Towns.NO_DIALS) {
            check.promise(20, "if there is no such warden");
            check.refuses(x, "without(" + no + ")", IndexOutOfBoundsException.class, () -> x.without(no));
            check.promise(22, "if there is no such warden");
            check.refuses(x, "wins(" + no + ")", IndexOutOfBoundsException.class, () -> x.wins(no));
            check.promise(23, "if there is no such dial");
            check.refuses(x, "quarrelIn(" + no + ")", IndexOutOfBoundsException.class, () -> x.quarrelIn(no));
            check.promise(24, "if there is no such dial");
            check.refuses(x, "ringsIn(" + no + ")", IndexOutOfBoundsException.class, () -> x.ringsIn(no));
        }
    }

    // ---- promise 20

    private static void withoutTheOnlyOne() {
        check.promise(20, "NONE if all other weights are 0");
        for (int warden = 0; warden < 7; warden++) {
            DialWardens x = Towns.saying(Towns.weights(0, 0, 0, 0, 0, 0, 0), 10, 20, 30, 40, 50, 60, 70);
            int other = (warden + 1) % 7;
            check.same("without(" + warden + ") of none", x.without(warden), DialWardens.NONE);
            x.warden(warden, 9, 0);
            check.same("without the only one, " + warden, x.without(warden), DialWardens.NONE);
            check.same("without another one", x.without(other), 10 * warden + 10);
            x.warden(other, 1, 0);
            check.same("without one of two", x.without(warden), 10 * other + 10);
            check.same("without the other one", x.without(other), 10 * warden + 10);
        }
        check.same("a middle of 0 is not NONE", new DialWardens().without(0), 0);
    }

    private static void withoutOneOfTwoHalves() {
        check.promise(20, "Returns the middle, as if its weight was 0");
        DialWardens x = Towns.saying(Towns.weights(2, 2, 1, 1, 0, 0, 0), 10, 20, 30, 40, 5, 50, 25);
        check.same("now", x.count(2), 20);
        check.same("without the first one: just half", x.without(0), 20);
        check.same("without the second one: just half", x.without(1), 10);
        check.same("without the third one", x.without(2), 20);
        check.same("without one with no weight", x.without(4), 20);
        x.warden(3, 2, 0);
        check.same("without the first one: less than half", x.without(0), 30);
        check.same("without the second one: less than half", x.without(1), 30);
        check.same("its weight is as it was", x.says(1, 0), 2);
    }

    // ---- promise 21

    private static void pivotAlsoWithoutAWeight() {
        check.promise(21, "the warden (also one with the weight 0) without whom the middle would differ the most from that of now");
        check.same("no one matters, and 0 has no weight", Towns.saying(Towns.weights(0, 3, 3, 3, 0, 0, 0), 1, 9, 9, 9, 1, 1, 1).pivot(), 0);
        check.same("the only one is 3", Towns.saying(Towns.weights(0, 0, 0, 1, 0, 0, 0), 1, 2, 3, 4, 5, 6, 7).pivot(), 0);
        check.same("1 matters, by 1", Towns.saying(Towns.weights(0, 1, 1, 1, 0, 0, 0), 1, 9, 9, 8, 1, 1, 1).pivot(), 1);
        check.same("5 matters, by 1", Towns.saying(Towns.weights(0, 0, 0, 0, 0, 1, 1), 1, 1, 1, 1, 1, 8, 9).pivot(), 5);
    }

    /** Without 1 the middle is 10 less than 20, also without 3; without 5 it is so much more. */
    private static void upAndDown(int more, int due) {
        DialWardens x = Towns.saying(Towns.weights(0, 2, 0, 1, 0, 2, 0), 0, 20 + more, 0, 20, 0, 10, 0);
        check.same("now", x.count(2), 20);
        check.same("without 1", x.without(1), 10);
        check.same("without 3", x.without(3), 10);
        check.same("without 5", x.without(5), 20 + more);
        check.same("pivot of 10 less and " + more + " more", x.pivot(), due);
    }

    private static void pivotOfSeveralTheLowest() {
        check.promise(21, "of several the lowest");
        check.same("at first", new DialWardens().pivot(), 0);
        upAndDown(9, 1);
        upAndDown(10, 1);
        upAndDown(11, 5);
        DialWardens x = Towns.saying(Towns.weights(1, 1, 1, 0, 0, 0, 0), 10, 20, 30, 0, 0, 0, 0);
        check.same("now", x.count(2), 20);
        check.same("without 0", x.without(0), 20);
        check.same("without 1", x.without(1), 10);
        check.same("without 2", x.without(2), 10);
        check.same("1 and 2 by 10 each", x.pivot(), 1);
        DialWardens y = Towns.saying(Towns.weights(2, 1, 2, 1, 0, 0, 0), 20, 10, 30, 40, 0, 0, 0);
        check.same("now", y.count(2), 20);
        check.same("without 0", y.without(0), 30);
        check.same("without 1", y.without(1), 30);
        check.same("without 2", y.without(2), 20);
        check.same("0 and 1 by 10 each", y.pivot(), 0);
        y.put(1, 31);
        y.put(2, 32);
        check.same("now", y.count(2), 31);
        check.same("without 0", y.without(0), 32);
        check.same("without 1", y.without(1), 32);
        check.same("without 2", y.without(2), 20);
        check.same("2 by 11, above 0 and 1", y.pivot(), 2);
    }

    private static void pivotLeavesOut() {
        check.promise(21, "those without whom there would be none are left out");
        check.same("0 is the only one", Towns.saying(Towns.weights(9, 0, 0, 0, 0, 0, 0), 70, 1, 2, 3, 4, 5, 6).pivot(), 1);
        check.same("6 is the only one", Towns.saying(Towns.weights(0, 0, 0, 0, 0, 0, 1), 70, 1, 2, 3, 4, 5, 6).pivot(), 0);
        check.same("0 is not the only one", Towns.saying(Towns.weights(9, 1, 0, 0, 0, 0, 0), 70, 1, 2, 3, 4, 5, 6).pivot(), 0);
        check.promise(21, "NONE if there is none now, or no warden is left");
        DialWardens x = Towns.saying(Towns.weights(0, 0, 0, 0, 0, 0, 0), 70, 1, 2, 3, 4, 5, 6);
        check.same("no weights", x.pivot(), DialWardens.NONE);
        x.warden(0, 1, 0);
        check.same("one weight", x.pivot(), 1);
    }

    // ---- promise 22

    /** The warden 3 says more than those with the weight below, and less than those with the weight above. */
    private static void wins(int below, int above, int due) {
        DialWardens x = new DialWardens();
        for (int dial = 0; dial < 7; dial++) {
            x.put(dial, 10 * dial + 10);
        }
        Towns.weigh(x, below / 3, below / 3, below - below / 3 * 2, 3, above / 3, above / 3, above - above / 3 * 2);
        check.same("wins with " + below + " below and " + above + " above", x.wins(3), due);
        if (due != DialWardens.NONE) {
            x.warden(3, due, 0);
            check.same("the middle with " + due, x.count(2), 40);
        }
        x.warden(3, due == DialWardens.NONE ? 9 : due - 1, 0);
        check.same("not the middle with less", x.count(2) == 40 ? 1 : 0, 0);
    }

    private static void winsFromOneToNine() {
        check.promise(22, "Returns the least weight, 1 to 9, with which the middle would be what it says");
        wins(0, 0, 1);
        wins(5, 5, 1);
        wins(0, 1, 1);
        wins(0, 2, 2);
        wins(1, 0, 2);
        wins(0, 9, 9);
        wins(8, 0, 9);
        wins(7, 0, 8);
        wins(12, 4, 9);
        wins(4, 13, 9);
        check.promise(22, "NONE if there is none");
        wins(9, 0, -1);
        wins(0, 10, -1);
        wins(13, 4, -1);
        wins(4, 14, -1);
        wins(24, 0, -1);
        wins(0, 24, -1);
    }

    private static void winsBesideLikeOnes() {
        check.promise(22, "with which the middle would be what it says");
        DialWardens x = Towns.saying(Towns.weights(9, 0, 3, 0, 0, 0, 0), 20, 20, 10, 30, 5, 20, 99);
        check.same("one who says the middle", x.wins(1), 1);
        check.same("also without its own weight", x.wins(0), 4);
        check.same("one below", x.wins(2), 9);
        check.same("one above", x.wins(3), -1);
        check.same("its own weight does not count", x.wins(4), -1);
        check.same("nothing is changed", x.says(2, 0), 3);
        DialWardens y = new DialWardens();
        for (int warden = 0; warden < 7; warden++) {
            check.same("all say the same", y.wins(warden), 1);
        }
    }

    // ---- promise 23

    private static void quarrelsNow() {
        check.promise(23, "0 if they do now");
        for (int setting : new int[] {0, 15, 99}) {
            DialWardens x = Towns.showing(0, 0, 100, 100 + setting, 300, 300 + setting + 1);
            x.set(0, setting);
            check.same("never alike", x.quarrelIn(0), -1);
            check.same("never by the setting " + setting, x.quarrelIn(2), -1);
            check.same("now by 1 more than " + setting, x.quarrelIn(4), 0);
            x.drift(3, 1);
            check.same("in 1 tick", x.quarrelIn(2), 1);
            x.drift(3, -5);
            check.same("in some ticks, the other way", x.quarrelIn(2), 2 * setting / 5 + 1);
            x.drift(5, -1);
            check.same("now, though not in a tick", x.quarrelIn(4), 0);
        }
    }

    /** Dial 3 gains a minute with each tick, from so far behind dial 4 that it is 100 ahead of it in some 200 ticks. */
    private static void quarrelsWithin200() {
        check.promise(23, "NONE if not within 200");
        for (int more = 38; more <= 42; more++) {
            DialWardens x = new DialWardens();
            x.set(0, 99);
            x.drift(3, 1);
            x.warden(3, 3, -60);
            x.put(4, more);
            int due = 160 + more;
            check.same("in " + due + " ticks", x.quarrelIn(3), due > 200 ? DialWardens.NONE : due);
            x.tick(99);
            x.tick(90);
            x.tick(due - 190);
            check.same("one tick before", x.says(4, 5), 0);
            check.same("in one tick", x.quarrelIn(3), 1);
            x.tick(1);
            check.same("now", x.quarrelIn(3), 0);
            check.same("now they do", x.says(4, 5), 1);
        }
    }

    private static void quarrelsForTheFirstTime() {
        check.promise(23, "Returns behind how many ticks they do for the first time");
        DialWardens x = new DialWardens();
        x.put(2, 99990);
        x.put(1, 99976);
        x.drift(2, 5);
        x.set(0, 15);
        check.same("never, as the top stops them both", x.quarrelIn(1), -1);
        x.put(2, 99980);
        x.put(1, 99969);
        check.same("in one tick, and in two no more", x.quarrelIn(1), 1);
        x.tick(1);
        check.same("now", x.quarrelIn(1), 0);
        x.tick(3);
        check.same("never again", x.quarrelIn(1), -1);
    }

    private static void quarrelsOfEachPair() {
        check.promise(23, "this one and the one behind it");
        for (int dial = 0; dial < 7; dial++) {
            DialWardens x = new DialWardens();
            x.drift(dial, 4);
            x.drift((dial + 1) % 7, -1);
            check.same("drifts 4 and -1", x.quarrelIn(dial), 4);
            check.same("drifts -1 and 0", x.quarrelIn((dial + 1) % 7), 16);
            check.same("drifts 0 and 4", x.quarrelIn((dial + 6) % 7), 4);
            check.same("no drifts", x.quarrelIn((dial + 3) % 7), -1);
        }
        check.promise(23, "6 and 0 are neighbours, too");
        DialWardens y = new DialWardens();
        y.drift(0, 5);
        check.same("6 and 0", y.quarrelIn(6), 4);
        check.same("0 and 1", y.quarrelIn(0), 4);
        check.same("5 and 6", y.quarrelIn(5), -1);
    }

    private static void quarrelsAtTheTop() {
        check.promise(23, "but none goes above 99999: then it stays there");
        DialWardens x = Towns.showing(99800, 99800);
        x.set(0, 9);
        x.drift(0, 1);
        check.same("the tenth tick brings 10 more", x.quarrelIn(0), 10);
        x.set(0, 18);
        check.same("the top stops the first one in the nineteenth", x.quarrelIn(0), -1);
        x.drift(1, -5);
        check.same("the second one is late", x.quarrelIn(0), 4);
        for (int fast = 0; fast < 2; fast++) {
            DialWardens z = Towns.showing(99800, 99800);
            z.drift(fast, 1);
            z.warden(0, 3, -60);
            z.warden(1, 3, -60);
            z.set(0, 17);
            check.same("in the eighteenth, also by lies: " + fast, z.quarrelIn(0), 18);
            z.set(0, 18);
            check.same("the top stops the dial, not the word: " + fast, z.quarrelIn(0), -1);
        }
        check.promise(23, "but at least 0 and at most 99999");
        DialWardens y = Towns.showing(99950, 99950);
        y.warden(0, 3, 60);
        y.set(0, 48);
        check.same("a word at most 99999: now", y.quarrelIn(0), 0);
        y.set(0, 49);
        check.same("a word at most 99999: never", y.quarrelIn(0), -1);
    }

    // ---- promise 24

    private static void rings(int minutes, int drift, int due) {
        DialWardens x = new DialWardens();
        x.put(5, minutes);
        x.drift(5, drift);
        check.same("ringsIn of " + minutes + " with " + drift, x.ringsIn(5), due);
        int bells = x.dial(5, 4);
        for (int ticks = 1; ticks <= due; ticks++) {
            check.same("ringsIn before tick " + ticks, x.ringsIn(5), due - ticks + 1);
            x.tick(1);
            check.same("bells behind tick " + ticks, x.dial(5, 4) - bells, ticks < due ? 0 : 1);
        }
    }

    private static void ringsInOneOrMore() {
        check.promise(24, "Returns behind how many ticks it has rung for the first time, 1 or more");
        rings(0, 0, 6);
        rings(59, 0, 1);
        rings(50, 0, 1);
        rings(49, 0, 2);
        rings(60, 0, 6);
        rings(61, 0, 6);
        rings(119, 0, 1);
        rings(0, 5, 4);
        rings(45, 5, 1);
        rings(44, 5, 2);
        rings(60, 5, 4);
        rings(0, -5, 12);
        rings(60, -5, 12);
        rings(55, -5, 1);
        rings(54, -5, 2);
        rings(4, -5, 12);
        rings(5, -5, 11);
        rings(99900, -5, 12);
    }

    /** No tick brings less than 5, so a dial rings within 12 ticks, or never. */
    private static void ringsNoMore() {
        check.promise(24, "NONE if not within 200");
        rings(99959, 0, 1);
        rings(99955, -5, 1);
        for (int minutes : new int[] {99960, 99961, 99989, 99990, 99998, 99999}) {
            for (int drift : new int[] {-5, 0, 5}) {
                rings(minutes, drift, DialWardens.NONE);
            }
        }
    }

    // ---- promises 25 and 26

    private static void heldShareWithoutVotes() {
        check.promise(25, "0.0 without votes");
        DialWardens x = new DialWardens();
        check.sameDouble("at first", x.heldShare(), 0.0);
        x.tick(1);
        check.sameDouble("behind a tick", x.heldShare(), 0.0);
        check.promise(25, "Returns count(7) as a double, divided by count(6)");
        DialWardens y = new DialWardens();
        y.vote();
        check.sameDouble("1 of 1", y.heldShare(), 1.0);
        y.undo();
        check.sameDouble("none behind undo", y.heldShare(), 0.0);
        y.tick(1);
        y.vote();
        check.sameDouble("0 of 1", y.heldShare(), 0.0);
        y.vote();
        check.sameDouble("1 of 2", y.heldShare(), 0.5);
        y.vote();
        check.sameDouble("2 of 3", y.heldShare(), 2.0 / 3.0);
        for (int votes = 4; votes <= 9; votes++) {
            y.vote();
            check.sameDouble("of " + votes, y.heldShare(), (votes - 1) / (double) votes);
        }
    }

    private static void meanErrorOnBothSides() {
        check.promise(26, "Returns dial(.., 5) of all dials together as a float, divided by 7");
        DialWardens x = new DialWardens();
        check.sameDouble("none", x.meanError(), 0.0f);
        x.tick(1);
        check.sameDouble("none behind a tick", x.meanError(), 0.0f);
        x.put(0, 9);
        check.sameDouble("1 less", x.meanError(), 1.0f / 7.0f);
        x.put(6, 11);
        check.sameDouble("1 less and 1 more", x.meanError(), 2.0f / 7.0f);
        x.put(3, 15);
        check.sameDouble("7 in all", x.meanError(), 1.0f);
        x.put(3, 16);
        check.sameDouble("8 in all", x.meanError(), 8.0f / 7.0f);
        check.sameDouble("the most of the dials", Towns.allAt(99999).meanError(), 99999.0f);
        check.sameDouble("one at the top", Towns.showing(99999).meanError(), 99999.0f / 7.0f);
    }

    // ---- promise 27

    private static long hash(long start, long... values) {
        long hash = start;
        for (long value : values) {
            hash = 31 * hash + value;
        }
        return hash;
    }

    /** The numbers of a new object, as the document tells them. */
    private static long hashOfANewObject() {
        long hash = hash(3863, 0, 0, 0, 0, 21, 0, 0, 0, 0, 0, 0, 0, 0, 0);
        hash = hash(hash, 15, 5);
        for (int dial = 0; dial < 7; dial++) {
            hash = hash(hash, 0, 0, 0, 0, 0, 0, 0, -1, 6);
        }
        for (int warden = 0; warden < 7; warden++) {
            hash = hash(hash, 3, 0, 0, 0, warden, 0, 0, 1);
        }
        return hash(hash, 0, 0, 0);
    }

    private static void digestOfANewObject() {
        check.promise(27, "The hash starts at 3863");
        check.same("digest", new DialWardens().digest(), hash(hashOfANewObject(), 0, 0));
        check.promise(27, "the hash becomes 31 * hash + v, in long arithmetic with overflow");
        DialWardens x = Towns.saying(Towns.weights(9, 0, 1, 4, 0, 3, 2), 99999, 0, 60, 59, 61, 120, 15);
        x.vote();
        long due = hash(hashOfLooks(x), Double.doubleToLongBits(0.0), Float.floatToIntBits(100314.0f / 7.0f), 0, 0);
        check.same("digest of numbers that differ", x.digest(), due);
    }

    private static void digestOfTheBuffer() {
        check.promise(27, "the length of the buffer and each of its character codes");
        DialWardens x = new DialWardens();
        x.append(33);
        check.same("one code", x.digest(), hash(hashOfANewObject(), 0, 1, 33));
        x.append(126);
        check.same("two codes", x.digest(), hash(hashOfANewObject(), 0, 2, 33, 126));
        x.clearBuffer();
        check.same("none again", x.digest(), hash(hashOfANewObject(), 0, 0));
        long due = hash(hashOfANewObject(), 0, 60);
        for (int i = 0; i < 60; i++) {
            x.append(40 + i);
            due = hash(due, 40 + i);
        }
        check.same("sixty codes", x.digest(), due);
    }

    private static void digestOfTheSnapshot() {
        check.promise(27, "1 if there is a snapshot, otherwise 0");
        DialWardens x = new DialWardens();
        x.keep();
        check.same("a snapshot", x.digest(), hash(hashOfANewObject(), 1, 0));
        x.keep();
        check.same("another one", x.digest(), hash(hashOfANewObject(), 1, 0));
        x.goBack();
        x.undo();
        check.same("it stays", x.digest(), hash(hashOfANewObject(), 1, 0));
    }

    private static long hashOfLooks(DialWardens x) {
        check.promise(27, "The values are: count(0) to count(13); the settings 0 and 1; for each dial its numbers 0 to 6, "
            + "quarrelIn, and ringsIn; for each warden its numbers 0 to 5, without, and wins; pivot");
        long hash = 3863;
        for (int what = 0; what < 14; what++) {
            hash = hash(hash, x.count(what));
        }
        hash = hash(hash, x.setting(0), x.setting(1));
        for (int dial = 0; dial < 7; dial++) {
            for (int what = 0; what < 7; what++) {
                hash = hash(hash, x.dial(dial, what));
            }
            hash = hash(hash, x.quarrelIn(dial), x.ringsIn(dial));
        }
        for (int warden = 0; warden < 7; warden++) {
            for (int what = 0; what < 6; what++) {
                hash = hash(hash, x.says(warden, what));
            }
            hash = hash(hash, x.without(warden), x.wins(warden));
        }
        return hash(hash, x.pivot());
    }

    private static void digestWithShares(DialWardens x, double held, float error) {
        check.sameDouble("heldShare", x.heldShare(), held);
        check.sameDouble("meanError", x.meanError(), error);
        long looks = hashOfLooks(x);
        check.promise(27, "the bits of heldShare (as Double.doubleToLongBits); the bits of meanError (as Float.floatToIntBits)");
        long due = hash(looks, Double.doubleToLongBits(held), Float.floatToIntBits(error), 0, 0);
        check.same("digest with " + held + " and " + error, x.digest(), due);
    }

    private static DialWardens votes(int votes, int... minutes) {
        DialWardens x = new DialWardens();
        x.put(0, 1);
        x.put(1, 1);
        x.put(2, 1);
        x.put(3, 1);
        for (int i = 0; i < votes; i++) {
            x.vote();
        }
        for (int dial = 0; dial < 7; dial++) {
            x.put(dial, dial < minutes.length ? minutes[dial] : 0);
        }
        return x;
    }

    private static void digestOfTheShares() {
        digestWithShares(votes(0), 0.0, 0.0f);
        digestWithShares(votes(1), 0.0, 0.0f);
        digestWithShares(votes(2), 0.5, 0.0f);
        digestWithShares(votes(3), 2.0 / 3.0, 0.0f);
        digestWithShares(votes(7), 6.0 / 7.0, 0.0f);
        digestWithShares(votes(100), 0.99, 0.0f);
        DialWardens all = new DialWardens();
        all.vote();
        digestWithShares(all, 1.0, 0.0f);
        digestWithShares(votes(0, 1), 0.0, 1.0f / 7.0f);
        digestWithShares(votes(0, 3, 3), 0.0, 6.0f / 7.0f);
        digestWithShares(votes(0, 3, 4), 0.0, 1.0f);
        digestWithShares(votes(0, 8, 0), 0.0, 8.0f / 7.0f);
        digestWithShares(votes(0, 6, 8), 0.0, 2.0f);
        digestWithShares(votes(2, 99999, 99998, 1), 0.5, 199998.0f / 7.0f);
        digestWithShares(votes(0, 99999, 99999, 99999, 99999, 99999, 99999, 99999), 0.0, 99999.0f);
    }

    private static void nothingIsChanged() {
        DialWardens x = Towns.saying(Towns.weights(3, 1, 2, 0, 9, 1, 4), 0, 40, 99, 99990, 59, 60, 61);
        x.drift(0, 5);
        x.drift(6, -5);
        x.keep();
        String before = Towns.looks(x);
        int saved = x.count(13);
        check.promise(27, "---- what would be; nothing is changed");
        for (int i = 0; i < 7; i++) {
            x.without(i);
            x.wins(i);
            x.quarrelIn(i);
            x.ringsIn(i);
        }
        x.pivot();
        x.heldShare();
        x.meanError();
        check.same("digest twice", x.digest(), x.digest());
        check.same("the looks", Towns.looks(x).compareTo(before), 0);
        check.same("saved states", x.count(13), saved);
        x.goBack();
        check.same("the snapshot", Towns.looks(x).compareTo(before), 0);
    }
}
