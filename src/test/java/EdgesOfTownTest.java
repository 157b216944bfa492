/** The boundaries of promises 1 to 4: a new object, tick, vote, correct. */
public final class EdgesOfTownTest {
    private static final Check check = new Check();
    private static final int[] SETTINGS = {0, 1, 5, 15, 98, 99};
    private static final long DIGEST_OF_A_NEW_OBJECT = new DialWardens().digest();

    public static void main(String[] args) {
        firstNumbers();
        emptyBufferNoSnapshot();
        sevenDials();
        nothingIsShared();
        theLastCall();
        ticksInRange();
        ticksBringMinutes();
        noneGoesAboveTheTop();
        theTrueTimeGoesOn();
        ticksComeToAnHour();
        bellsOfAllDials();
        allWeightsZero();
        weightsThatWentByQuarrels();
        twiceTheWeights();
        aWeightAboveZero();
        wordsAtBothEnds();
        theTownHolds();
        quarrelsBeginAboveTheSetting();
        theFirstSettingOfQuarrels();
        whoDiffersMore();
        notBelowZero();
        whatTheTownTellsNow();
        correctBeginsAboveTheSetting();
        correctAtBothEnds();
        correctForwardAndBackAlike();
        correctRings();
        correctRingsNoHourBack();
        check.end();
    }

    // ---- promise 1

    private static void firstNumbers() {
        DialWardens x = new DialWardens();
        for (int i = 0; i < 7; i++) {
            check.promise(1, "A dial shows minutes, 0 to 99999, at first 0");
            check.same("dial(" + i + ", 0)", x.dial(i, 0), 0);
            check.promise(1, "it has a drift, -5 to 5, at first 0");
            check.same("dial(" + i + ", 2)", x.dial(i, 2), 0);
            check.promise(1, "it has a weight, 0 to 9, at first 3, and a lie, -60 to 60, at first 0");
            check.same("says(" + i + ", 0)", x.says(i, 0), 3);
            check.same("says(" + i + ", 1)", x.says(i, 1), 0);
        }
        check.promise(1, "The true time is in minutes, too, at first 0");
        check.same("count(0)", x.count(0), 0);
        check.promise(1, "The town tells a time, at first 0");
        check.same("count(1)", x.count(1), 0);
        check.promise(1, "(In parentheses: range; first value.) 0: when neighbours quarrel (0 to 99; 15)");
        check.same("setting(0)", x.setting(0), 15);
        check.promise(1, "1: how much dials may differ (0 to 99; 5)");
        check.same("setting(1)", x.setting(1), 5);
        check.promise(1, "Creates dials and wardens as told above");
        for (int what = 5; what < 14; what++) {
            check.same("count(" + what + ")", x.count(what), 0);
        }
        for (int i = 0; i < 7; i++) {
            check.same("bells of " + i, x.dial(i, 4), 0);
            check.same("losses of " + i, x.says(i, 3), 0);
        }
        check.promise(1, "`NONE = -1`");
        check.same("NONE", DialWardens.NONE, -1);
    }

    private static void emptyBufferNoSnapshot() {
        check.promise(1, "with an empty buffer and no snapshot");
        DialWardens x = new DialWardens();
        check.same("firstError", x.firstError(), 0);
        check.same("clearBuffer", x.clearBuffer(), 0);
        check.refuses(x, "obey", IllegalArgumentException.class, x::obey);
        check.refuses(x, "goBack", IllegalStateException.class, x::goBack);
        check.refuses(x, "undo", IllegalStateException.class, x::undo);
        check.same("the first append", x.append('v'), 1);
        check.same("the first keep", x.keep(), 0);
        check.same("goBack behind keep", x.goBack(), 0);
        check.same("obey behind append", x.obey(), 1);
    }

    private static void sevenDials() {
        check.promise(1, "There are 7 dials, numbered from 0");
        DialWardens x = new DialWardens();
        check.same("the first one", x.put(0, 7) + x.dial(0, 0), 7);
        check.same("the last one", x.put(6, 8) + x.dial(6, 0), 8);
        for (int dial : Towns.NO_DIALS) {
            check.refuses(x, "put(" + dial + ", 1)", IndexOutOfBoundsException.class, () -> x.put(dial, 1));
        }
        check.promise(1, "The warden w looks at the dial w");
        check.same("the first one", x.says(0, 2), 7);
        check.same("the last one", x.says(6, 2), 8);
        check.same("the others", x.says(1, 2) + x.says(5, 2), 0);
    }

    private static void nothingIsShared() {
        check.promise(1, "Creates dials and wardens as told above");
        DialWardens other = new DialWardens();
        String first = Towns.looks(other);
        DialWardens x = Towns.telling(700);
        x.warden(0, 9, 60);
        x.drift(0, 5);
        x.set(0, 0);
        x.keep();
        Check.append(x, "v;c");
        check.same("an older object is as it was", first.compareTo(Towns.looks(other)), 0);
        check.same("a younger object is new", first.compareTo(Towns.looks(new DialWardens())), 0);
        check.same("the digest of a younger one", new DialWardens().digest(), other.digest());
        check.same("the buffer of a younger one", new DialWardens().clearBuffer(), 0);
        check.refuses(other, "goBack of the older one", IllegalStateException.class, other::goBack);
    }

    private static void theLastCall() {
        check.promise(1, "An object is used for at most 512 calls after it has been made");
        DialWardens x = new DialWardens();
        for (int call = 1; call < 512; call++) {
            x.tick(99);
        }
        check.same("call 512", x.count(0), 511 * 990);
        DialWardens y = new DialWardens();
        for (int round = 0; round < 85; round++) {
            y.tick(1);
            y.vote();
            y.correct();
            y.keep();
            y.goBack();
            y.undo();
        }
        check.same("call 511", y.count(6), 85);
        check.same("call 512", y.undo(), 4);
        for (int kind = 0; kind < 9; kind++) {
            DialWardens z = new DialWardens();
            for (int call = 1; call < 512; call++) {
                callOfAKind(z, kind, call);
            }
            check.same("call 512 behind calls of the kind " + kind, z.says(6, 0), 3);
        }
    }

    private static void callOfAKind(DialWardens x, int kind, int call) {
        switch (kind) {
            case 0: check.same("vote " + call, x.vote(), 0); break;
            case 1: check.same("correct " + call, x.correct(), 0); break;
            case 2: check.same("put " + call, x.put(6, call), call - 1); break;
            case 3: check.same("drift " + call, x.drift(6, call % 6), (call - 1) % 6); break;
            case 4: check.same("warden " + call, x.warden(6, 3, call % 61), 3); break;
            case 5: check.same("set " + call, x.set(1, (call + 5) % 100), (call + 4) % 100); break;
            case 6: check.same("keep " + call, x.keep(), 0); break;
            case 7: check.same("append and clearBuffer " + call, call % 2 == 1 ? x.append('v') : x.clearBuffer(), 1); break;
            default: check.same("digest " + call, x.digest(), DIGEST_OF_A_NEW_OBJECT);
        }
    }

    // ---- promise 2

    private static void ticksInRange() {
        check.promise(2, "1 to 99");
        DialWardens x = new DialWardens();
        check.same("tick(1)", x.tick(1), 0);
        check.same("true time", x.count(0), 10);
        check.same("tick(99)", x.tick(99), 7 * 16);
        check.same("true time", x.count(0), 1000);
        check.promise(2, "if ticks is out of range");
        for (int ticks : new int[] {0, 100, -1, -99, 101, Integer.MIN_VALUE, Integer.MAX_VALUE}) {
            check.refuses(x, "tick(" + ticks + ")", IllegalArgumentException.class, () -> x.tick(ticks));
        }
        check.same("saved states", x.count(13), 2);
    }

    private static void ticksBringMinutes() {
        check.promise(2, "With a tick the true time becomes 10 more, and each dial shows 10 and its drift, together, more");
        DialWardens x = new DialWardens();
        x.drift(0, -5);
        x.drift(1, -4);
        x.drift(2, -1);
        x.drift(4, 1);
        x.drift(5, 4);
        x.drift(6, 5);
        int[] due = {5, 6, 9, 10, 11, 14, 15};
        x.tick(1);
        for (int dial = 0; dial < 7; dial++) {
            check.same("dial " + dial + " behind a tick", x.dial(dial, 0), due[dial]);
        }
        x.tick(99);
        for (int dial = 0; dial < 7; dial++) {
            check.same("dial " + dial + " behind 100 ticks", x.dial(dial, 0), 100 * due[dial]);
        }
        check.same("true time", x.count(0), 1000);
    }

    private static void tickAtTheTop(int start, int drift, int due) {
        DialWardens x = new DialWardens();
        x.put(3, start);
        x.drift(3, drift);
        x.tick(1);
        String from = "a tick from " + start + " with the drift " + drift;
        check.same(from, x.dial(3, 0), due);
        check.same(from + ", the account", x.dial(3, 1), due);
        check.same(from + ", the other dials", x.dial(2, 0) + x.dial(4, 0), 20);
        x.tick(3);
        check.same(from + ", and three more", x.dial(3, 0), 99999);
        check.same(from + ", and three more, the account", x.dial(3, 1), 99999);
    }

    private static void noneGoesAboveTheTop() {
        check.promise(2, "but none goes above 99999: then it stays there");
        tickAtTheTop(99988, 0, 99998);
        tickAtTheTop(99989, 0, 99999);
        tickAtTheTop(99990, 0, 99999);
        tickAtTheTop(99983, 5, 99998);
        tickAtTheTop(99984, 5, 99999);
        tickAtTheTop(99985, 5, 99999);
        tickAtTheTop(99993, -5, 99998);
        tickAtTheTop(99994, -5, 99999);
        tickAtTheTop(99995, -5, 99999);
        tickAtTheTop(99998, 0, 99999);
        tickAtTheTop(99999, -5, 99999);
        tickAtTheTop(99999, 0, 99999);
        tickAtTheTop(99999, 5, 99999);
        DialWardens x = Towns.showing(99999);
        x.tick(99);
        check.same("99 ticks at the top", x.dial(0, 0), 99999);
        check.same("and back from it by hand", x.put(0, 99979), 99999);
        x.tick(1);
        check.same("it goes again", x.dial(0, 0), 99989);
    }

    private static void theTrueTimeGoesOn() {
        check.promise(2, "With a tick the true time becomes 10 more");
        DialWardens x = new DialWardens();
        for (int i = 0; i < 101; i++) {
            x.tick(99);
        }
        check.same("below the dials' top", x.count(0), 99990);
        check.same("a dial below its top", x.dial(0, 0), 99990);
        x.tick(1);
        check.same("above the dials' top", x.count(0), 100000);
        check.same("a dial at its top", x.dial(0, 0), 99999);
        check.same("they differ", x.dial(0, 5), 1);
        x.tick(9);
        check.same("far above the dials' top", x.count(0), 100090);
        check.same("they differ", x.dial(0, 5), 91);
    }

    private static void tickRings(int start, int drift, int due) {
        DialWardens x = new DialWardens();
        x.put(3, start);
        x.drift(3, drift);
        int before = x.dial(3, 4);
        String from = "bells of a tick from " + start + " with the drift " + drift;
        check.same(from, x.tick(1), due);
        check.same(from + ", of the dial", x.dial(3, 4) - before, due);
        check.same(from + ", of all", x.count(8) - before, due);
    }

    private static void ticksComeToAnHour() {
        check.promise(2, "each full hour (a multiple of 60 above 0) that it comes to or passes when it goes forward");
        tickRings(0, 0, 0);
        tickRings(49, 0, 0);
        tickRings(50, 0, 1);
        tickRings(51, 0, 1);
        tickRings(59, 0, 1);
        tickRings(60, 0, 0);
        tickRings(44, 5, 0);
        tickRings(45, 5, 1);
        tickRings(59, 5, 1);
        tickRings(60, 5, 0);
        tickRings(54, -5, 0);
        tickRings(55, -5, 1);
        tickRings(59, -5, 1);
        tickRings(60, -5, 0);
        tickRings(109, 0, 0);
        tickRings(110, 0, 1);
        tickRings(99949, 0, 0);
        tickRings(99950, 0, 1);
        tickRings(99959, 5, 1);
        tickRings(99960, 5, 0);
        tickRings(99989, 0, 0);
        tickRings(99990, 0, 0);
        tickRings(99999, 5, 0);
    }

    private static void bellsOfAllDials() {
        check.promise(2, "Returns how many bells are rung in them");
        DialWardens x = new DialWardens();
        check.same("before the hour", x.tick(5), 0);
        check.same("to the hour", x.tick(1), 7);
        check.same("from hour to hour", x.tick(6), 7);
        check.same("over two hours", x.tick(12), 14);
        x.drift(0, 5);
        check.same("one of them is faster", x.tick(4), 1);
        DialWardens y = Towns.allAt(99999);
        check.same("all at the top", y.tick(99), 0);
        check.same("what was put is not in it", y.count(8), 7 * 1666);
    }

    // ---- promise 3

    private static void allWeightsZero() {
        check.promise(3, "if all weights are 0");
        for (int warden = 0; warden < 7; warden++) {
            DialWardens x = Towns.saying(Towns.weights(0, 0, 0, 0, 0, 0, 0), 10, 20, 30, 40, 50, 60, 70);
            check.refuses(x, "vote without weights", IllegalStateException.class, x::vote);
            check.same("votes", x.count(6), 0);
            x.warden(warden, 1, 0);
            check.same("vote with the weight 1 of " + warden, x.vote(), 10 * warden + 10);
            check.same("votes", x.count(6), 1);
            x.warden(warden, 0, 0);
            check.refuses(x, "vote without weights again", IllegalStateException.class, x::vote);
        }
    }

    private static void weightsThatWentByQuarrels() {
        check.promise(3, "if all weights are 0");
        DialWardens x = Towns.telling(100);
        x.put(0, 50);
        Towns.weigh(x, 3, 0, 0, 0, 0, 0, 0);
        check.same("a vote that leaves the weight 1", x.vote(), 100);
        check.same("all weights", x.count(4), 1);
        check.same("a vote that leaves none", x.vote(), 100);
        check.same("all weights", x.count(4), 0);
        check.refuses(x, "a vote by nobody", IllegalStateException.class, x::vote);
        check.same("votes", x.count(6), 3);
    }

    private static void middle(int due, int[] weights, int... words) {
        DialWardens x = Towns.saying(weights, words);
        check.same("middle by adding", x.count(3), due);
        check.same("middle by order", x.count(2), due);
        check.same("vote", x.vote(), due);
    }

    private static void twiceTheWeights() {
        check.promise(3, "for which twice the weights of all wardens who say at most that is at least the sum of all weights");
        middle(10, Towns.weights(1, 1, 0, 0, 0, 0, 0), 10, 20);
        middle(20, Towns.weights(1, 2, 0, 0, 0, 0, 0), 10, 20);
        middle(10, Towns.weights(2, 1, 0, 0, 0, 0, 0), 10, 20);
        middle(20, Towns.weights(2, 1, 0, 0, 0, 0, 0), 20, 10, 30);
        middle(10, Towns.weights(9, 4, 5, 0, 0, 0, 0), 10, 20, 30);
        middle(20, Towns.weights(8, 4, 5, 0, 0, 0, 0), 10, 20, 30);
        middle(30, Towns.weights(4, 4, 9, 0, 0, 0, 0), 10, 20, 30);
        middle(20, Towns.weights(4, 4, 8, 0, 0, 0, 0), 10, 20, 30);
        middle(40, Towns.weights(9, 9, 9, 9, 9, 9, 9), 70, 10, 60, 20, 50, 30, 40);
        middle(40, Towns.weights(9, 9, 8, 9, 9, 9, 0), 70, 10, 60, 20, 50, 40, 0);
        middle(20, Towns.weights(1, 1, 3, 1, 0, 0, 0), 20, 20, 30, 10);
        middle(30, Towns.weights(1, 1, 4, 1, 0, 0, 0), 20, 20, 30, 10);
        middle(5, Towns.weights(1, 1, 1, 1, 1, 1, 1), 5, 5, 5, 5, 5, 5, 5);
        middle(5, Towns.weights(1, 1, 1, 1, 1, 1, 1), 5, 6, 5, 6, 5, 6, 5);
        middle(6, Towns.weights(1, 1, 1, 1, 1, 1, 1), 5, 6, 5, 6, 5, 6, 6);
    }

    private static void aWeightAboveZero() {
        check.promise(3, "the least number that is said by some warden with a weight above 0");
        middle(20, Towns.weights(0, 1, 0, 0, 0, 0, 0), 10, 20, 30);
        middle(20, Towns.weights(0, 1, 0, 1, 0, 0, 0), 10, 20, 15, 30, 19, 21, 5);
        middle(10, Towns.weights(1, 1, 0, 1, 0, 1, 0), 10, 20, 15, 10, 12, 20, 5);
        middle(12, Towns.weights(1, 2, 0, 1, 1, 1, 0), 10, 20, 11, 10, 12, 20, 5);
    }

    private static void wordAtAnEnd(int minutes, int lie, int due) {
        DialWardens x = Towns.allAt(minutes);
        for (int warden = 0; warden < 7; warden++) {
            x.warden(warden, 3, lie);
        }
        check.same("vote with " + minutes + " and the lie " + lie, x.vote(), due);
        check.same("the word", x.says(6, 2), due);
    }

    private static void wordsAtBothEnds() {
        check.promise(3, "A warden says the minutes of its dial and its lie together, but at least 0 and at most 99999");
        wordAtAnEnd(0, -1, 0);
        wordAtAnEnd(0, 0, 0);
        wordAtAnEnd(0, 1, 1);
        wordAtAnEnd(59, -60, 0);
        wordAtAnEnd(60, -60, 0);
        wordAtAnEnd(61, -60, 1);
        wordAtAnEnd(99938, 60, 99998);
        wordAtAnEnd(99939, 60, 99999);
        wordAtAnEnd(99940, 60, 99999);
        wordAtAnEnd(99999, 1, 99999);
        wordAtAnEnd(99999, 60, 99999);
        wordAtAnEnd(99999, 0, 99999);
        wordAtAnEnd(99999, -1, 99998);
    }

    private static void voteBehind(int told, int middle, int due, int held) {
        DialWardens x = Towns.allAt(told);
        int first = told == 0 ? 1 : 0;
        check.same("the first vote", x.vote(), told);
        check.same("it held", x.count(7), first);
        for (int dial = 0; dial < 7; dial++) {
            x.put(dial, middle);
        }
        check.same("a vote for " + middle + " behind " + told, x.vote(), due);
        check.same("what the town tells", x.count(1), due);
        check.same("votes that held", x.count(7), first + held);
        check.same("votes", x.count(6), 2);
    }

    private static void theTownHolds() {
        check.promise(3, "When the wardens vote, the town tells the middle, if that is above what it told before; "
            + "otherwise it tells what it told before (it holds)");
        voteBehind(100, 99, 100, 1);
        voteBehind(100, 100, 100, 1);
        voteBehind(100, 101, 101, 0);
        voteBehind(0, 0, 0, 1);
        voteBehind(0, 1, 1, 0);
        voteBehind(1, 0, 1, 1);
        voteBehind(99998, 99999, 99999, 0);
        voteBehind(99999, 99999, 99999, 1);
        voteBehind(99999, 0, 99999, 1);
        check.promise(3, "Returns what the town tells then");
        voteBehind(200, 199, 200, 1);
        voteBehind(200, 201, 201, 0);
    }

    /** One says something else than both of its neighbours. */
    private static void oneApart(int warden, int setting, int apart) {
        DialWardens x = Towns.allAt(200);
        x.set(0, setting);
        x.put(warden, 200 + apart);
        check.same("vote", x.vote(), 200);
        boolean quarrels = apart > setting || -apart > setting;
        for (int other = 0; other < 7; other++) {
            int due = other == warden && quarrels ? 1 : 3;
            check.same("weight of " + other + " when " + warden + " is " + apart + " apart", x.says(other, 0), due);
            check.same("losses of " + other, x.says(other, 3), 3 - due);
        }
    }

    private static void quarrelsBeginAboveTheSetting() {
        check.promise(3, "Two neighbours quarrel if what their wardens say differs by more than setting 0");
        for (int setting : SETTINGS) {
            for (int warden = 0; warden < 7; warden++) {
                oneApart(warden, setting, setting);
                oneApart(warden, setting, setting + 1);
                oneApart(warden, setting, -setting);
                oneApart(warden, setting, -setting - 1);
            }
        }
    }

    private static void theFirstSettingOfQuarrels() {
        check.promise(3, "when neighbours quarrel (0 to 99; 15)");
        DialWardens x = new DialWardens();
        x.warden(3, 3, 15);
        x.vote();
        check.same("15 apart", x.says(3, 0), 3);
        x.warden(3, 3, 16);
        x.vote();
        check.same("16 apart", x.says(3, 0), 1);
    }

    /** From the one behind the pair round to the other one, each says 5 more; so the pair alone quarrels. */
    private static void onePairQuarrels(int one, int lowBy, int highBy, int oneDue, int otherDue) {
        int other = (one + 1) % 7;
        int[] words = new int[7];
        for (int i = 0; i < 7; i++) {
            words[(other + i) % 7] = 200 + 5 * i;
        }
        words[other] -= lowBy;
        words[one] += highBy;
        DialWardens x = Towns.showing(words);
        check.same("vote", x.vote(), 215);
        for (int warden = 0; warden < 7; warden++) {
            int due = warden == one ? oneDue : warden == other ? otherDue : 3;
            check.same("weight of " + warden + " when " + one + " and " + other + " quarrel", x.says(warden, 0), due);
        }
    }

    private static void whoDiffersMore() {
        for (int pair = 0; pair < 7; pair++) {
            check.promise(3, "if both differ alike, neither does");
            onePairQuarrels(pair, 0, 0, 3, 3);
            onePairQuarrels(pair, 1, 1, 3, 3);
            check.promise(3, "the warden of both whose word differs more from what the town tells gets a weight of 1 less");
            onePairQuarrels(pair, 1, 0, 3, 2);
            onePairQuarrels(pair, 0, 1, 2, 3);
        }
        check.promise(3, "6 and 0 are neighbours, too");
        onePairQuarrels(6, 1, 0, 3, 2);
        onePairQuarrels(6, 0, 1, 2, 3);
        check.promise(3, "it is looked at all pairs of neighbours, dial by dial (the dial and the one behind it)");
        DialWardens x = Towns.showing(0, 100, 0, 100, 0, 100, 200);
        check.same("vote", x.vote(), 100);
        int[] due = {2, 3, 1, 3, 1, 3, 2};
        for (int warden = 0; warden < 7; warden++) {
            check.same("weight of " + warden + " when all pairs quarrel", x.says(warden, 0), due[warden]);
        }
    }

    private static void weightBehindTwoQuarrels(int weight, int due, int losses) {
        DialWardens x = Towns.allAt(200);
        x.put(3, 300);
        x.warden(3, weight, 0);
        x.vote();
        check.same("weight, once " + weight, x.says(3, 0), due);
        check.same("losses, once " + weight, x.says(3, 3), losses);
        check.same("the neighbours of " + weight, x.says(2, 0) + x.says(4, 0), 6);
    }

    private static void notBelowZero() {
        check.promise(3, "gets a weight of 1 less, but not below 0");
        weightBehindTwoQuarrels(9, 7, 2);
        weightBehindTwoQuarrels(3, 1, 2);
        weightBehindTwoQuarrels(2, 0, 2);
        weightBehindTwoQuarrels(1, 0, 1);
        weightBehindTwoQuarrels(0, 0, 0);
    }

    private static void whatTheTownTellsNow() {
        check.promise(3, "and what the town tells now");
        DialWardens x = Towns.allAt(500);
        x.put(2, 100);
        check.same("a vote for more than before", x.vote(), 500);
        check.same("who is far from the new time", x.says(2, 0), 1);
        check.same("who is far from the old time", x.says(1, 0) + x.says(3, 0), 6);
        DialWardens y = Towns.telling(500);
        for (int dial = 0; dial < 7; dial++) {
            y.put(dial, 100);
        }
        y.put(2, 400);
        check.same("a vote for less than before", y.vote(), 500);
        check.same("who is far from the middle", y.says(2, 0), 3);
        check.same("who is far from what it holds", y.says(1, 0) + y.says(3, 0), 4);
    }

    // ---- promise 4

    private static void correctOne(int told, int setting, int start, int due) {
        DialWardens x = Towns.telling(told);
        x.set(1, setting);
        x.put(4, start);
        String what = "the setting " + setting + ", " + start + " and " + told;
        int off = start == due ? 0 : 1;
        check.same("dial(4, 6): " + what, x.dial(4, 6), off);
        check.same("count(11): " + what, x.count(11), off);
        check.same("correct: " + what, x.correct(), Math.abs(due - start));
        check.same("dial(4, 0): " + what, x.dial(4, 0), due);
        check.same("dial(3, 0): " + what, x.dial(3, 0), told);
        check.same("correct again: " + what, x.correct(), 0);
    }

    private static void correctBeginsAboveTheSetting() {
        check.promise(4, "each dial whose minutes differ from what the town tells by more than setting 1 is moved, "
            + "forward or back, as little as can be, until they do not differ by more");
        for (int setting : SETTINGS) {
            correctOne(200, setting, 200 + setting, 200 + setting);
            correctOne(200, setting, 200 + setting + 1, 200 + setting);
            correctOne(200, setting, 99999, 200 + setting);
            correctOne(200, setting, 200 - setting, 200 - setting);
            correctOne(200, setting, 200 - setting - 1, 200 - setting);
            correctOne(200, setting, 0, 200 - setting);
        }
        DialWardens late = new DialWardens();
        late.tick(99);
        for (int dial = 0; dial < 7; dial++) {
            late.put(dial, 4);
        }
        check.same("by what the town tells, not by the true time", late.correct(), 0);
        check.promise(4, "how much dials may differ (0 to 99; 5)");
        for (int dial = 0; dial < 7; dial++) {
            DialWardens x = Towns.telling(200);
            x.put(dial, 205);
            check.same("5 more", x.correct(), 0);
            x.put(dial, 206);
            check.same("6 more", x.correct(), 1);
            x.put(dial, 195);
            check.same("5 less", x.correct(), 0);
            x.put(dial, 194);
            check.same("6 less", x.correct(), 1);
        }
    }

    private static void correctAtBothEnds() {
        check.promise(4, "A dial shows minutes, 0 to 99999");
        correctOne(0, 5, 5, 5);
        correctOne(0, 5, 6, 5);
        correctOne(3, 5, 0, 0);
        correctOne(5, 5, 0, 0);
        correctOne(6, 5, 0, 1);
        correctOne(98, 99, 0, 0);
        correctOne(100, 99, 0, 1);
        correctOne(99999, 5, 99994, 99994);
        correctOne(99999, 5, 99993, 99994);
        correctOne(99996, 5, 99999, 99999);
        correctOne(99994, 5, 99999, 99999);
        correctOne(99993, 5, 99999, 99998);
        correctOne(0, 0, 99999, 0);
        correctOne(99999, 0, 0, 99999);
    }

    private static void correctForwardAndBackAlike() {
        check.promise(4, "Returns by how many minutes all dials together are moved, forward and back alike");
        DialWardens x = Towns.telling(200);
        check.same("none is moved", x.correct(), 0);
        x.put(0, 195 - 4);
        x.put(6, 205 + 3);
        int forward = x.count(9);
        int back = x.count(10);
        check.same("two are moved", x.correct(), 7);
        check.same("forward", x.count(9) - forward, 4);
        check.same("back", x.count(10) - back, 3);
        DialWardens y = Towns.telling(99999);
        y.set(1, 0);
        for (int dial = 0; dial < 7; dial++) {
            y.put(dial, 0);
        }
        check.same("all are moved all the way", y.correct(), 7 * 99999);
    }

    /** By correct() from start to told - 5, as setting 1 is 5. */
    private static void correctRingsForward(int told, int start, int due) {
        DialWardens x = Towns.telling(told);
        x.put(4, start);
        int bells = x.dial(4, 4);
        int all = x.count(8);
        check.same("forward from " + start, x.correct(), told - 5 - start);
        check.same("bells from " + start + " to " + (told - 5), x.dial(4, 4) - bells, due);
        check.same("bells of all dials", x.count(8) - all, due);
    }

    private static void correctRings() {
        check.promise(4, "when it goes forward (by ticks, and when it is corrected or moved by hand)");
        correctRingsForward(64, 0, 0);
        correctRingsForward(65, 0, 1);
        correctRingsForward(66, 0, 1);
        correctRingsForward(65, 59, 1);
        correctRingsForward(66, 59, 1);
        correctRingsForward(66, 60, 0);
        correctRingsForward(124, 59, 1);
        correctRingsForward(125, 59, 2);
        correctRingsForward(125, 60, 1);
        correctRingsForward(126, 119, 1);
        correctRingsForward(99964, 0, 1665);
        correctRingsForward(99965, 0, 1666);
        correctRingsForward(99999, 99960, 0);
    }

    private static void correctRingsNoHourBack() {
        check.promise(4, "A dial rings a bell for each full hour");
        for (int told : new int[] {114, 115, 116}) {
            for (int start : new int[] {told + 6, 179, 180, 181, 99999}) {
                DialWardens x = Towns.telling(told);
                x.put(4, start);
                int bells = x.count(8);
                check.same("back from " + start, x.correct(), start - told - 5);
                check.same("bells back to " + (told + 5), x.count(8), bells);
            }
        }
    }
}
