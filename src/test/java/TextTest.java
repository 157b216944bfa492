/** Promises 9 to 12: append, clearBuffer, firstError, obey. */
public final class TextTest {
    private static final Check check = new Check();
    private static final String[] COMPLETE = {
        "t1", "t9", "t10", "t99", "v", "c", "d0+0", "d6-5", "d3-0", "t5;v", "v;v;c;d2+5;t10", "c;t1"
    };
    private static final String[] BEGUN = {"", "t", "d", "d0", "d6+", "d6-", "v;", "t12;", "t1;d", "d0+5;"};

    public static void main(String[] args) {
        append();
        wrongAppend();
        clearBuffer();
        firstErrors();
        errorsByEveryCharacter();
        obeyed();
        obeyedLikeCalls();
        stopsAtAVote();
        wrongObey();
        fullBuffer();
        whatWasInTheBufferIsGone();
        check.end();
    }

    private static void append() {
        DialWardens x = new DialWardens();
        for (int i = 1; i <= 60; i++) {
            check.same("append " + i, x.append(i == 1 ? 33 : 126), i);
        }
        check.refuses(x, "append to a full buffer", IllegalStateException.class, () -> x.append(33));
        check.refuses(x, "a wrong append to a full buffer", IllegalArgumentException.class, () -> x.append(32));
        check.same("no saved state", x.count(13), 0);
        check.same("length", x.clearBuffer(), 60);
    }

    private static void wrongAppend() {
        DialWardens x = new DialWardens();
        x.append('v');
        for (int code : new int[] {32, 127, 0, -1, 256 + 't', Integer.MIN_VALUE, Integer.MAX_VALUE}) {
            check.refuses(x, "append(" + code + ")", IllegalArgumentException.class, () -> x.append(code));
        }
        check.same("length", x.append('v'), 2);
    }

    private static void clearBuffer() {
        DialWardens x = new DialWardens();
        long before = x.digest();
        Check.append(x, "t9;x");
        check.same("clearBuffer", x.clearBuffer(), 4);
        check.same("clearBuffer again", x.clearBuffer(), 0);
        check.same("nothing else changed", x.digest(), before);
        check.same("append", x.append('v'), 1);
    }

    private static void errorAt(String text, int due) {
        DialWardens x = new DialWardens();
        Check.append(x, text);
        check.same("firstError of \"" + text + "\"", x.firstError(), due);
        check.same("length of \"" + text + "\"", x.clearBuffer(), text.length());
    }

    private static void firstErrors() {
        for (String text : COMPLETE) {
            errorAt(text, text.length());
        }
        for (String text : BEGUN) {
            errorAt(text, text.length());
        }
        errorAt("t0", 1);
        errorAt("t01", 1);
        errorAt("t100", 3);
        errorAt("t1;t0;x", 4);
        errorAt(";", 0);
        errorAt("v;;v", 2);
        errorAt("vv", 1);
        errorAt("cv", 1);
        errorAt("d7", 1);
        errorAt("d0*", 2);
        errorAt("d0+6", 3);
        errorAt("d0-6", 3);
        errorAt("d0+55", 4);
        errorAt("d0++", 3);
        errorAt("t1t1", 2);
        errorAt("t10v", 3);
        errorAt("xt1", 0);
        errorAt("V", 0);
        errorAt("5", 0);
        errorAt("t5;v;d0-5;t1;c;d3+5;d3-0;t99;v;t5;v;d0-5;t1;c;d3+5;d3-0;t99!", 60 - 1);
    }

    /** What may follow each kind of beginning, for all the codes that the buffer takes. */
    private static void errorsByEveryCharacter() {
        String[] begun = {"", "t", "t1", "t10", "v", "c", "d", "d0", "d0+", "d0-", "d0+1"};
        String[] follow = {"tvcd", "123456789", "0123456789;", ";", ";", ";", "0123456", "+-", "012345", "012345", ";"};
        for (int i = 0; i < begun.length; i++) {
            for (char code = 33; code <= 126; code++) {
                for (String ahead : new String[] {"", "v;"}) {
                    String text = ahead + begun[i] + code;
                    errorAt(text, follow[i].indexOf(code) >= 0 ? text.length() : text.length() - 1);
                }
            }
        }
    }

    private static void obeyed() {
        DialWardens x = new DialWardens();
        Check.append(x, "d0+5;d1-3;d2-0;t12;v;c");
        check.same("obey", x.obey(), 6);
        check.same("buffer", x.clearBuffer(), 0);
        check.same("one saved state", x.count(13), 1);
        check.same("drift 0", x.dial(0, 2), 5);
        check.same("drift 1", x.dial(1, 2), -3);
        check.same("drift 2", x.dial(2, 2), 0);
        check.same("true time", x.count(0), 120);
        check.same("the town", x.count(1), 120);
        check.same("dial 0", x.dial(0, 0), 125);
        check.same("dial 1", x.dial(1, 0), 115);
        check.same("votes", x.count(6), 1);
        check.same("undo", x.undo(), 0);
        check.same("digest behind undo", x.digest(), new DialWardens().digest());
        check.same("the buffer stays empty", x.firstError(), 0);
    }

    private static void obeyedLikeCalls() {
        DialWardens x = new DialWardens();
        DialWardens y = new DialWardens();
        Check.append(x, "t9;d6+5;t99;v;c;d6-5;d3+1;t20;v;c;d3-0;t7");
        check.same("obey", x.obey(), 12);
        y.tick(9);
        y.drift(6, 5);
        y.tick(99);
        y.vote();
        y.correct();
        y.drift(6, -5);
        y.drift(3, 1);
        y.tick(20);
        y.vote();
        y.correct();
        y.drift(3, 0);
        y.tick(7);
        for (int what = 0; what < 13; what++) {
            check.same("count " + what, x.count(what), y.count(what));
        }
        for (int dial = 0; dial < 7; dial++) {
            for (int what = 0; what < 6; what++) {
                check.same("dial " + dial + ", " + what, x.dial(dial, what), y.dial(dial, what));
                check.same("warden " + dial + ", " + what, x.says(dial, what), y.says(dial, what));
            }
        }
    }

    private static void stopsAtAVote() {
        DialWardens x = new DialWardens();
        for (int warden = 0; warden < 7; warden++) {
            x.warden(warden, 0, 0);
        }
        Check.append(x, "t2;v;t3");
        check.same("obey", x.obey(), 1);
        check.same("true time", x.count(0), 20);
        check.same("buffer", x.clearBuffer(), 0);
        check.same("undo", x.undo(), 5);
        check.same("true time behind undo", x.count(0), 0);
        Check.append(x, "v");
        check.same("obey of nothing", x.obey(), 0);
        check.same("it is saved", x.count(13), 6);
        check.same("buffer", x.clearBuffer(), 0);
        aWeightThatGoesWhileItObeys();
    }

    private static void aWeightThatGoesWhileItObeys() {
        DialWardens x = new DialWardens();
        x.tick(12);
        x.vote();
        x.put(0, 50);
        x.warden(0, 1, 0);
        for (int warden = 1; warden < 7; warden++) {
            x.warden(warden, 0, 0);
        }
        Check.append(x, "t1;v;t2;v;t3");
        check.same("obey until no weight is left", x.obey(), 3);
        check.same("votes", x.count(6), 2);
        check.same("true time", x.count(0), 150);
        check.same("all weights", x.count(4), 0);
    }

    private static void wrongObey() {
        for (String text : BEGUN) {
            refusesObey(text);
        }
        refusesObey("t0");
        refusesObey("v;x");
        refusesObey("v;v!");
        refusesObey("t100");
        refusesObey(";v");
    }

    private static void refusesObey(String text) {
        DialWardens x = new DialWardens();
        x.tick(1);
        Check.append(x, text);
        check.refuses(x, "obey of \"" + text + "\"", IllegalArgumentException.class, x::obey);
        check.same("the buffer stays", x.clearBuffer(), text.length());
    }

    private static void fullBuffer() {
        DialWardens x = new DialWardens();
        for (int i = 0; i < 14; i++) {
            Check.append(x, "t99;");
        }
        Check.append(x, "d3-5");
        check.same("firstError", x.firstError(), 60);
        check.same("obey", x.obey(), 15);
        check.same("true time", x.count(0), 14 * 990);
        check.same("drift", x.dial(3, 2), -5);
    }

    private static void whatWasInTheBufferIsGone() {
        DialWardens x = new DialWardens();
        Check.append(x, "t19;v");
        check.same("obey of t19;v", x.obey(), 2);
        Check.append(x, "t1");
        check.same("firstError of t1", x.firstError(), 2);
        check.same("obey of t1", x.obey(), 1);
        check.same("true time", x.count(0), 200);
        check.same("votes", x.count(6), 1);
        Check.append(x, "t28");
        x.clearBuffer();
        Check.append(x, "t2");
        check.same("obey of t2", x.obey(), 1);
        check.same("true time", x.count(0), 220);
    }
}
