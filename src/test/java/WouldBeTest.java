/** Promises 20 to 27: without, pivot, wins, quarrelIn, ringsIn, heldShare, meanError, digest. */
public final class WouldBeTest {
    private static final Check check = new Check();
    private static final int[] NO_NUMBERS = {-1, 7, 8, Integer.MIN_VALUE, Integer.MAX_VALUE};

    public static void main(String[] args) {
        without();
        pivot();
        pivotOfFew();
        wins();
        quarrelIn();
        quarrelInAtTheEdges();
        ringsIn();
        heldShare();
        meanError();
        digest();
        digestTellsStatesApart();
        wrongNumbers();
        check.end();
    }

    private static DialWardens town(int[] weights, int[] words) {
        DialWardens x = new DialWardens();
        for (int warden = 0; warden < 7; warden++) {
            x.warden(warden, weights[warden], 0);
            x.put(warden, words[warden]);
        }
        return x;
    }

    private static void without() {
        DialWardens x = town(new int[] {1, 1, 1, 1, 1, 0, 0}, new int[] {10, 20, 30, 40, 50, 5, 60});
        int[] due = {30, 30, 20, 20, 20, 30, 30};
        long before = x.digest();
        for (int warden = 0; warden < 7; warden++) {
            check.same("without(" + warden + ")", x.without(warden), due[warden]);
        }
        check.same("nothing is changed", x.digest(), before);
        DialWardens y = town(new int[] {0, 0, 4, 0, 0, 0, 0}, new int[] {10, 20, 30, 40, 50, 5, 60});
        check.same("without the only one", y.without(2), -1);
        check.same("without one of no weight", y.without(3), 30);
    }

    private static void pivot() {
        DialWardens x = town(new int[] {1, 1, 1, 1, 1, 0, 0}, new int[] {10, 20, 30, 40, 50, 5, 60});
        check.same("pivot, of several the lowest", x.pivot(), 2);
        DialWardens y = town(new int[] {1, 1, 3, 1, 0, 0, 2}, new int[] {100, 100, 200, 300, 400, 500, 200});
        check.same("without the first", y.without(0), 200);
        check.same("pivot that does not matter", y.pivot(), 0);
        DialWardens z = town(new int[] {0, 2, 2, 0, 0, 0, 0}, new int[] {1, 40, 90, 0, 0, 0, 0});
        check.same("pivot upwards", z.pivot(), 1);
        DialWardens w = town(new int[] {1, 1, 1, 0, 0, 0, 0}, new int[] {10, 0, 90, 0, 0, 0, 0});
        check.same("pivot downwards", w.pivot(), 0);
    }

    private static void pivotOfFew() {
        DialWardens x = town(new int[] {5, 0, 0, 0, 0, 0, 0}, new int[] {70, 1, 2, 3, 4, 5, 6});
        check.same("the only one is left out", x.pivot(), 1);
        DialWardens y = town(new int[] {0, 0, 0, 0, 0, 0, 0}, new int[] {70, 1, 2, 3, 4, 5, 6});
        check.same("pivot without a middle", y.pivot(), -1);
        check.same("pivot of a new object", new DialWardens().pivot(), 0);
    }

    private static void wins() {
        DialWardens x = town(new int[] {0, 2, 2, 2, 0, 0, 0}, new int[] {10, 20, 30, 40, 50, 30, 5});
        check.same("the lowest with a weight like all others", x.wins(0), 6);
        check.same("one in the middle", x.wins(2), 1);
        check.same("one below it", x.wins(1), 4);
        check.same("one above it: more than half", x.wins(3), 5);
        check.same("the highest: more than all others", x.wins(4), 7);
        check.same("one who says the middle", x.wins(5), 1);
        check.same("the weight is as before", x.says(3, 0), 2);
        DialWardens y = town(new int[] {3, 3, 3, 0, 0, 0, 0}, new int[] {10, 20, 30, 99, 1, 0, 0});
        check.same("none for the highest", y.wins(3), -1);
        check.same("nine for the lowest", y.wins(4), 9);
        DialWardens z = town(new int[] {0, 0, 0, 0, 0, 0, 0}, new int[] {10, 20, 30, 99, 1, 0, 0});
        check.same("alone", z.wins(3), 1);
    }

    private static void quarrelIn() {
        DialWardens x = new DialWardens();
        check.same("never", x.quarrelIn(0), -1);
        x.drift(0, 5);
        x.drift(6, -1);
        long before = x.digest();
        check.same("0 and 1", x.quarrelIn(0), 4);
        check.same("6 and 0", x.quarrelIn(6), 3);
        check.same("5 and 6", x.quarrelIn(5), 16);
        check.same("1 and 2", x.quarrelIn(1), -1);
        check.same("nothing is changed", x.digest(), before);
        x.tick(3);
        check.same("now", x.quarrelIn(6), 0);
        check.same("then", x.quarrelIn(0), 1);
        x.warden(2, 3, 60);
        check.same("by what they say", x.quarrelIn(2), 0);
    }

    private static void quarrelInAtTheEdges() {
        DialWardens x = new DialWardens();
        x.drift(3, 1);
        x.set(0, 99);
        x.warden(4, 3, 60);
        check.same("behind 60 + 99 ticks and one", x.quarrelIn(3), 160);
        x.warden(3, 3, -60);
        x.warden(4, 3, 0);
        x.put(4, 40);
        check.same("within 200", x.quarrelIn(3), 200);
        x.put(4, 41);
        check.same("not within 200", x.quarrelIn(3), -1);
        DialWardens y = new DialWardens();
        y.put(0, 99900);
        y.put(1, 99900);
        y.drift(0, 1);
        check.same("before the top stops them", y.quarrelIn(0), -1);
        y.put(2, 99999);
        y.put(3, 99970);
        check.same("now, though not later", y.quarrelIn(2), 0);
        y.put(3, 99990);
        y.warden(3, 3, -20);
        y.tick(1);
        check.same("both at the top, by the lie", y.quarrelIn(2), 0);
        DialWardens z = new DialWardens();
        z.warden(5, 3, -60);
        check.same("a word below 0 is 0 at first", z.quarrelIn(5), 2);
    }

    private static void ringsIn() {
        DialWardens x = new DialWardens();
        check.same("first hour", x.ringsIn(0), 6);
        x.drift(1, 5);
        x.drift(2, -5);
        check.same("fast", x.ringsIn(1), 4);
        check.same("slow", x.ringsIn(2), 12);
        x.put(3, 59);
        check.same("one tick", x.ringsIn(3), 1);
        x.put(3, 60);
        check.same("not the hour that it shows", x.ringsIn(3), 6);
        x.put(4, 99959);
        check.same("the last bell", x.ringsIn(4), 1);
        x.put(4, 99960);
        check.same("no bell is left", x.ringsIn(4), -1);
        x.put(4, 99999);
        check.same("at the top", x.ringsIn(4), -1);
        check.same("bells are not rung by a look", x.dial(0, 4), 0);
    }

    private static void heldShare() {
        DialWardens x = new DialWardens();
        check.sameDouble("without votes", x.heldShare(), 0.0);
        x.tick(1);
        x.vote();
        check.sameDouble("0 of 1", x.heldShare(), 0.0);
        x.vote();
        check.sameDouble("1 of 2", x.heldShare(), 0.5);
        x.vote();
        check.sameDouble("2 of 3", x.heldShare(), 2.0 / 3);
        x.undo();
        check.sameDouble("1 of 2 again", x.heldShare(), 0.5);
        DialWardens y = new DialWardens();
        y.vote();
        check.sameDouble("1 of 1", y.heldShare(), 1.0);
    }

    private static void meanError() {
        DialWardens x = new DialWardens();
        check.sameDouble("none", x.meanError(), 0.0f);
        x.put(0, 1);
        check.sameDouble("one", x.meanError(), 1 / 7f);
        x.tick(1);
        x.put(1, 0);
        check.sameDouble("one and ten", x.meanError(), 11 / 7f);
        x.put(2, 99999);
        check.sameDouble("many", x.meanError(), (11 + 99989) / 7f);
    }

    private static long digestByHand(DialWardens x, boolean hasSnapshot, String buffer) {
        long hash = 3863;
        for (int what = 0; what < 14; what++) {
            hash = 31 * hash + x.count(what);
        }
        hash = 31 * (31 * hash + x.setting(0)) + x.setting(1);
        for (int dial = 0; dial < 7; dial++) {
            for (int what = 0; what < 7; what++) {
                hash = 31 * hash + x.dial(dial, what);
            }
            hash = 31 * (31 * hash + x.quarrelIn(dial)) + x.ringsIn(dial);
        }
        for (int warden = 0; warden < 7; warden++) {
            for (int what = 0; what < 6; what++) {
                hash = 31 * hash + x.says(warden, what);
            }
            hash = 31 * (31 * hash + x.without(warden)) + x.wins(warden);
        }
        hash = 31 * hash + x.pivot();
        hash = 31 * hash + Double.doubleToLongBits(x.heldShare());
        hash = 31 * hash + Float.floatToIntBits(x.meanError());
        hash = 31 * hash + (hasSnapshot ? 1 : 0);
        hash = 31 * hash + buffer.length();
        for (char code : buffer.toCharArray()) {
            hash = 31 * hash + code;
        }
        return hash;
    }

    /** Behind so many rounds; a new object for each, as one digest by hand takes some 130 of its 512 calls. */
    private static DialWardens behind(int rounds) {
        DialWardens x = new DialWardens();
        x.drift(0, 5);
        x.warden(5, 4, -7);
        x.set(1, 11);
        for (int i = 1; i <= rounds; i++) {
            x.tick(i);
            x.vote();
            if (i % 3 == 0) {
                x.vote();
            }
            if (i % 7 == 0) {
                x.put(i % 6, 99999 - i);
            }
        }
        return x;
    }

    private static void digest() {
        check.same("digest of a new object", new DialWardens().digest(), digestByHand(new DialWardens(), false, ""));
        for (int rounds = 0; rounds <= 60; rounds++) {
            DialWardens x = behind(rounds);
            check.same("digest " + rounds, x.digest(), digestByHand(x, false, ""));
        }
        DialWardens y = behind(5);
        Check.append(y, "t9;~!");
        check.same("digest with a buffer", y.digest(), digestByHand(y, false, "t9;~!"));
        y.keep();
        check.same("digest with a snapshot", y.digest(), digestByHand(y, true, "t9;~!"));
        for (int votes = 0; votes <= 100; votes++) {
            DialWardens held = new DialWardens();
            for (int i = 0; i < votes; i++) {
                held.vote();
            }
            check.same("digest held " + votes, held.digest(), digestByHand(held, false, ""));
        }
    }

    private static void digestTellsStatesApart() {
        DialWardens x = new DialWardens();
        long before = x.digest();
        check.same("again", x.digest(), before);
        x.append('v');
        if (x.digest() == before) {
            check.tell("the digest does not see the buffer");
        }
        x.clearBuffer();
        check.same("digest behind clearBuffer", x.digest(), before);
        x.keep();
        if (x.digest() == before) {
            check.tell("the digest does not see the snapshot");
        }
    }

    private static void wrongNumbers() {
        DialWardens x = new DialWardens();
        for (int number : NO_NUMBERS) {
            check.refuses(x, "without(" + number + ")", IndexOutOfBoundsException.class, () -> x.without(number));
            check.refuses(x, "wins(" + number + ")", IndexOutOfBoundsException.class, () -> x.wins(number));
            check.refuses(x, "quarrelIn(" + number + ")", IndexOutOfBoundsException.class, () -> x.quarrelIn(number));
            check.refuses(x, "ringsIn(" + number + ")", IndexOutOfBoundsException.class, () -> x.ringsIn(number));
        }
    }
}
