/** The boundaries of promises 9 to 12, and of what orders as a text are: append, clearBuffer, firstError, obey. */
public final class EdgesOfTextTest {
    private static final Check check = new Check();
    private static final String SIXTY_OF_VOTES = "v;".repeat(30);

    public static void main(String[] args) {
        codesInRange();
        codesOutOfRange();
        sixtyCharacters();
        aFullBufferAndAWrongCode();
        clearBufferTellsTheLength();
        whatWasThereIsGone();
        noErrorTellsTheLength();
        ticksAsAText();
        votesAndCorrectionsAsAText();
        driftsAsAText();
        partsAsAText();
        theFirstError();
        ordersOfAnyLength();
        completeOrders();
        incompleteOrders();
        leastAndMostOfAPart();
        upToTheFirstThatThrows();
        alsoIfNoneIsObeyed();
        asOneCall();
        asTheCallsDo();
        aRefusedObeyChangesNothing();
        check.end();
    }

    private static DialWardens holding(String text) {
        DialWardens x = new DialWardens();
        Check.append(x, text);
        return x;
    }

    // ---- promise 9

    private static void codesInRange() {
        check.promise(9, "the character code, 33 to 126");
        DialWardens x = new DialWardens();
        check.same("append(33)", x.append(33), 1);
        check.same("append(126)", x.append(126), 2);
        check.promise(9, "Returns the new length of the buffer");
        for (int code = 34; code < 92; code++) {
            check.same("append(" + code + ")", x.append(code), code - 31);
        }
        check.same("all of them", x.clearBuffer(), 60);
        for (int code = 92; code < 126; code++) {
            check.same("append(" + code + ")", x.append(code), code - 91);
        }
        check.same("saved states", x.count(13), 0);
    }

    private static void codesOutOfRange() {
        check.promise(9, "if code is not 33 to 126");
        DialWardens x = new DialWardens();
        int[] wrong = {32, 127, 0, -1, 10, 128, 255, 256 + 't', 65536 + 't', Integer.MIN_VALUE, Integer.MAX_VALUE};
        for (int code : wrong) {
            check.refuses(x, "append(" + code + ")", IllegalArgumentException.class, () -> x.append(code));
        }
        check.same("the length is 0", x.append('t'), 1);
        for (int code : wrong) {
            check.refuses(x, "append(" + code + ") to t", IllegalArgumentException.class, () -> x.append(code));
        }
        check.same("the length is 1", x.append('1'), 2);
        check.same("obey", x.obey(), 1);
    }

    private static void sixtyCharacters() {
        check.promise(9, "The buffer has at most 60 characters");
        DialWardens x = new DialWardens();
        for (int i = 1; i <= 59; i++) {
            x.append(i % 2 == 0 ? ';' : 'v');
        }
        check.same("append of the last one", x.append(';'), 60);
        check.promise(9, "if the buffer has 60 characters");
        for (int code : new int[] {'v', 33, 126}) {
            check.refuses(x, "append(" + code + ") to 60", IllegalStateException.class, () -> x.append(code));
        }
        check.same("clearBuffer", x.clearBuffer(), 60);
        check.same("append to an empty one", x.append('v'), 1);
        DialWardens y = holding("v;".repeat(29) + "v");
        check.same("append to 59 characters", y.append('!'), 60);
        check.refuses(y, "append to 60 characters", IllegalStateException.class, () -> y.append('!'));
    }

    private static void aFullBufferAndAWrongCode() {
        check.promise(9, "If several exceptions apply, the one that is named first in the throws clause is thrown");
        DialWardens x = holding(SIXTY_OF_VOTES);
        for (int code : new int[] {32, 127, Integer.MIN_VALUE, Integer.MAX_VALUE}) {
            check.refuses(x, "append(" + code + ") to 60", IllegalArgumentException.class, () -> x.append(code));
        }
    }

    // ---- promise 10

    private static void clearBufferTellsTheLength() {
        check.promise(10, "Returns the length that it had");
        DialWardens x = new DialWardens();
        check.same("an empty one", x.clearBuffer(), 0);
        x.append('x');
        check.same("one character", x.clearBuffer(), 1);
        check.promise(10, "Clears the buffer");
        check.same("an empty one again", x.clearBuffer(), 0);
        long empty = x.digest();
        Check.append(x, SIXTY_OF_VOTES);
        check.same("a full one", x.clearBuffer(), 60);
        check.same("nothing is left", x.firstError(), 0);
        check.same("nothing else is changed", x.digest(), empty);
        check.refuses(x, "obey of nothing", IllegalArgumentException.class, x::obey);
        check.same("no state is saved", x.count(13), 0);
        check.same("append to an empty one", x.append('x'), 1);
    }

    private static void whatWasThereIsGone() {
        check.promise(10, "Clears the buffer");
        DialWardens x = holding("t99;v");
        x.clearBuffer();
        Check.append(x, "t9");
        check.same("firstError", x.firstError(), 2);
        check.same("obey", x.obey(), 1);
        check.same("true time behind 9 ticks, not 99", x.count(0), 90);
        check.promise(12, "and clears the buffer");
        Check.append(x, "t1");
        check.same("obey", x.obey(), 1);
        check.same("true time behind 1 tick, not 19", x.count(0), 100);
        Check.append(x, "v");
        check.same("obey of v alone", x.obey(), 1);
        check.same("true time", x.count(0), 100);
    }

    // ---- promise 11

    private static void errorAt(String text, int due) {
        DialWardens x = holding(text);
        long before = x.digest();
        check.same("firstError of \"" + text + "\"", x.firstError(), due);
        check.same("firstError changed \"" + text + "\"", x.digest(), before);
    }

    private static void noError(String... texts) {
        for (String text : texts) {
            errorAt(text, text.length());
            if (text.length() < 58) {
                errorAt("c;" + text, text.length() + 2);
            }
        }
    }

    private static void errorAtLast(String... texts) {
        for (String text : texts) {
            errorAt(text, text.length() - 1);
            if (text.length() < 58) {
                errorAt("c;" + text, text.length() + 1);
            }
        }
    }

    private static void noErrorTellsTheLength() {
        check.promise(11, "the length of the buffer if there is none");
        errorAt("", 0);
        errorAt("v", 1);
        errorAt("v;".repeat(29) + "v", 59);
        errorAt(SIXTY_OF_VOTES, 60);
        errorAt("v;".repeat(29) + "t9", 60);
        errorAt("t99;".repeat(15), 60);
        check.promise(11, "Returns the index of the first character that is a syntax error");
        errorAt("!", 0);
        errorAt("v!", 1);
        errorAt("v;".repeat(29) + "!", 58);
        errorAt("v;".repeat(29) + "v!", 59);
        errorAt("v;".repeat(29) + ";v", 58);
        errorAt("!" + "v;".repeat(29) + "v", 0);
    }

    private static void ticksAsAText() {
        check.promise(11, "\"t\" and 1 to 99, without leading zeros (so many ticks)");
        noError("t", "t1", "t9", "t10", "t19", "t90", "t99", "t1;", "t99;");
        errorAtLast("t0", "t/", "t:", "t-", "t+", "t;", "tt", "tv", "t1/", "t1:", "t9:", "t9/", "t100", "t990", "t999", "t109");
        errorAtLast("T", "t10:", "t10/", "t99v", "t1t", "t1v", "t1-", "t1.");
        errorAt("t00", 1);
        errorAt("t01", 1);
        errorAt("t010", 1);
        errorAt("t0;v", 1);
    }

    private static void votesAndCorrectionsAsAText() {
        check.promise(11, "\"v\" (the wardens vote)");
        noError("v", "v;", "v;v");
        errorAtLast("V", "u", "w", "vv", "v1", "vc", "v:", "v,");
        check.promise(11, "\"c\" (the dials are corrected)");
        noError("c", "c;", "c;c");
        errorAtLast("C", "b", "cc", "c1", "cv", "c:", "c,");
    }

    private static void driftsAsAText() {
        check.promise(11, "or \"d\", a dial, 0 to 6, \"+\" or \"-\", and a figure 0 to 5");
        noError("d", "d0", "d6", "d0+", "d0-", "d6+", "d6-", "d0+0", "d0-0", "d6+5", "d6-5", "d3+5;", "d3-0;");
        errorAtLast("D", "e", "d/", "d7", "d8", "d9", "d:", "d+", "d-", "d;", "dd", "d00", "d06", "d66", "d0;", "d0v");
        errorAtLast("d0,", "d0*", "d0.", "d0=", "d0+/", "d0+6", "d0+7", "d0+9", "d0+:", "d0-/", "d0-6", "d0-9", "d0-:");
        errorAtLast("d0+;", "d0-;", "d0++", "d0--", "d0+-", "d0+00", "d0+05", "d0+10", "d0-55", "d0+5v", "d0+5+");
    }

    private static void partsAsAText() {
        check.promise(11, "Orders as a text are one or more parts with \";\" between them");
        noError("v;c;t1;d0+0", "t99;t99", "d6-5;c", "v;");
        errorAt(";", 0);
        errorAt(";v", 0);
        errorAt("v;;", 2);
        errorAt("v;;c", 2);
        errorAt("t1;;", 3);
        errorAt("d0+1;;", 5);
        errorAt("v,c", 1);
        errorAt("v:c", 1);
        errorAt("v<c", 1);
        errorAt("vc", 1);
        errorAt("t10d0+1", 3);
    }

    private static void theFirstError() {
        check.promise(11, "The buffer is read from left to right");
        errorAt("v;x;y", 2);
        errorAt("xv;c", 0);
        errorAt("t0;t0", 1);
        errorAt("v!!!", 1);
        errorAt("t100;d7", 3);
        errorAt("c;v;d7;t0", 5);
    }

    private static void ordersOfAnyLength() {
        check.promise(11, "a character is a syntax error if no orders as a text, of any length, begin with the characters before it and this character");
        for (String end : new String[] {"v;", "t", "t9", "t99", "t9;", "d", "d6", "d6+", "d6-", "d6-5"}) {
            errorAt(sixtyWithTheEnd(end), 60);
        }
        for (String end : new String[] {"v;;", "t0", "t100", "tt", "d7", "d6*", "d6+6", "d6-55", "vv", "x"}) {
            errorAt(sixtyWithTheEnd(end), 59);
        }
        errorAt(SIXTY_OF_VOTES, 60);
        errorAt("d0+5;".repeat(12), 60);
    }

    /** Whole parts with a ";" behind each, and then this end. */
    private static String sixtyWithTheEnd(String end) {
        int room = 60 - end.length();
        return (room % 2 == 0 ? "" : "t9;") + "v;".repeat((room % 2 == 0 ? room : room - 3) / 2) + end;
    }

    // ---- promise 12

    private static void obeys(String text, int due) {
        DialWardens x = holding(text);
        check.same("obey of \"" + text + "\"", x.obey(), due);
        check.same("the buffer behind \"" + text + "\"", x.clearBuffer(), 0);
        check.same("saved states behind \"" + text + "\"", x.count(13), 1);
    }

    private static void refusesToObey(String... texts) {
        for (String text : texts) {
            DialWardens x = holding(text);
            check.refuses(x, "obey of \"" + text + "\"", IllegalArgumentException.class, x::obey);
            check.same("the buffer behind \"" + text + "\"", x.clearBuffer(), text.length());
            check.same("saved states behind \"" + text + "\"", x.count(13), 0);
        }
    }

    private static void completeOrders() {
        check.promise(12, "Orders as a text are one or more parts");
        for (String part : new String[] {"t1", "t9", "t10", "t99", "v", "c", "d0+0", "d0-0", "d6+5", "d6-5"}) {
            obeys(part, 1);
            obeys(part + ";v", 2);
            obeys("c;" + part, 2);
        }
        check.promise(12, "Returns how many parts are obeyed");
        obeys("v;".repeat(29) + "v", 30);
        obeys("v;".repeat(28) + "t9;v", 30);
        obeys("t99;".repeat(14) + "d3-5", 15);
    }

    private static void incompleteOrders() {
        check.promise(12, "if the buffer is not complete orders as a text");
        refusesToObey("", "t", "d", "d0", "d6", "d0+", "d0-");
        refusesToObey("v;", "c;", "t1;", "t10;", "d0+0;", "v;t", "v;d", "v;d0", "v;d0+", "v;d0-", SIXTY_OF_VOTES);
        refusesToObey("t0", "t100", "t01", "d7+0", "d0+6", "d0-6", "d0*1", "vv", ";v", "v;;v", "v;x", "x;v", "v!", "t1;t0");
    }

    private static void leastAndMostOfAPart() {
        check.promise(12, "\"t\" and 1 to 99, without leading zeros (so many ticks)");
        int[] ticks = {1, 9, 10, 11, 90, 99};
        for (int number : ticks) {
            DialWardens x = holding("t" + number);
            x.obey();
            check.same("true time behind t" + number, x.count(0), 10 * number);
        }
        check.promise(12, "and a figure 0 to 5 (its drift becomes that; \"-0\" is 0)");
        for (int dial = 0; dial < 7; dial++) {
            DialWardens x = new DialWardens();
            x.drift(dial, 2);
            for (int figure = 0; figure <= 5; figure++) {
                Check.append(x, "d" + dial + "+" + figure);
                x.obey();
                check.same("drift " + dial + " by +" + figure, x.dial(dial, 2), figure);
                Check.append(x, "d" + dial + "-" + figure);
                x.obey();
                check.same("drift " + dial + " by -" + figure, x.dial(dial, 2), -figure);
            }
            check.same("drift of others", x.dial((dial + 1) % 7, 2) + x.dial((dial + 6) % 7, 2), 0);
        }
        DialWardens y = new DialWardens();
        y.drift(4, 5);
        Check.append(y, "d4-0");
        y.obey();
        check.same("drift by -0", y.dial(4, 2), 0);
    }

    private static void stopsBehind(String text, int obeyed, int time, int drift) {
        DialWardens x = new DialWardens();
        Towns.weighNothing(x);
        Check.append(x, text);
        check.same("obey of \"" + text + "\" without weights", x.obey(), obeyed);
        check.same("true time behind \"" + text + "\"", x.count(0), time);
        check.same("drift behind \"" + text + "\"", x.dial(0, 2), drift);
        check.same("votes behind \"" + text + "\"", x.count(6), 0);
        check.same("the buffer behind \"" + text + "\"", x.clearBuffer(), 0);
    }

    private static void upToTheFirstThatThrows() {
        check.promise(12, "part by part, up to the first one that would throw an exception, and clears the buffer");
        stopsBehind("v", 0, 0, 0);
        stopsBehind("v;t1", 0, 0, 0);
        stopsBehind("t1;v", 1, 10, 0);
        stopsBehind("t1;v;t2;d0+1", 1, 10, 0);
        stopsBehind("t1;d0+5;c;v;v;d0-5;t9", 3, 10, 5);
        stopsBehind("t1;d0-5;c;t2", 4, 30, -5);
        DialWardens x = Towns.telling(100);
        x.put(0, 50);
        Towns.weigh(x, 2, 0, 0, 0, 0, 0, 0);
        Check.append(x, "v;c;t1;v;t2");
        check.same("obey while the weight goes", x.obey(), 3);
        check.same("true time", x.count(0), 10);
        check.same("votes", x.count(6), 2);
    }

    private static void alsoIfNoneIsObeyed() {
        check.promise(12, "Undoable, as one call, also if none is obeyed");
        DialWardens x = new DialWardens();
        Towns.weighNothing(x);
        x.keep();
        for (int left = 5; left >= 0; left--) {
            check.same("undo", x.undo(), left);
        }
        x.goBack();
        String before = Towns.looks(x);
        check.same("saved states before", x.count(13), 1);
        Check.append(x, "v;t1");
        check.same("obey of none", x.obey(), 0);
        check.same("saved states behind it", x.count(13), 2);
        check.same("the state behind it", Towns.looks(x).compareTo(before), 0);
        check.same("undo of it", x.undo(), 1);
        check.same("the state behind undo", Towns.looks(x).compareTo(before), 0);
        check.same("the buffer behind undo", x.clearBuffer(), 0);
    }

    private static void asOneCall() {
        check.promise(12, "Undoable, as one call, also if none is obeyed");
        DialWardens x = holding("t1;v;c;t1;d0+1;t99");
        check.same("obey of six", x.obey(), 6);
        check.same("saved states", x.count(13), 1);
        check.same("undo", x.undo(), 0);
        check.same("true time", x.count(0), 0);
        check.same("votes", x.count(6), 0);
        check.same("drift", x.dial(0, 2), 0);
        for (int i = 0; i < 6; i++) {
            x.tick(1);
        }
        Check.append(x, "t1;t1;t1;t1;t1;t1;t1");
        check.same("obey of seven", x.obey(), 7);
        check.same("saved states", x.count(13), 6);
        check.same("undo of all seven", x.undo(), 5);
        check.same("true time", x.count(0), 60);
        for (int left = 4; left >= 0; left--) {
            check.same("undo", x.undo(), left);
        }
        check.same("only the oldest one was dropped", x.count(0), 10);
    }

    private static void asTheCallsDo() {
        check.promise(12, "Obeys the orders in the buffer as tick(), vote(), correct() and drift() do");
        DialWardens x = Towns.showing(99990, 0, 45, 59, 60, 100, 130);
        DialWardens y = Towns.showing(99990, 0, 45, 59, 60, 100, 130);
        Check.append(x, "t1;d2+5;d3-5;v;c;t99;v;v;d2-0;c;t3");
        check.same("obey", x.obey(), 11);
        y.tick(1);
        y.drift(2, 5);
        y.drift(3, -5);
        y.vote();
        y.correct();
        y.tick(99);
        y.vote();
        y.vote();
        y.drift(2, 0);
        y.correct();
        y.tick(3);
        if (!Towns.looks(x).equals(Towns.looks(y))) {
            check.tell("obey is not as the calls: " + Towns.looks(x) + " and " + Towns.looks(y));
        }
    }

    private static void aRefusedObeyChangesNothing() {
        check.promise(12, "A call that throws an exception changes nothing");
        DialWardens x = holding("t1;v;t");
        check.refuses(x, "obey of what is begun", IllegalArgumentException.class, x::obey);
        check.same("true time", x.count(0), 0);
        check.same("the buffer is as it was", x.append('2'), 7);
        check.same("obey of what is ended", x.obey(), 3);
        check.same("true time", x.count(0), 30);
    }
}
