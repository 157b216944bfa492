import java.util.Random;
import java.util.function.Supplier;

/** Long runs of calls, right and wrong ones, in each of which the class and the model must answer alike. */
public final class RandomRunsTest {
    private static final int RUNS = 300;
    private static final int CALLS_MAX = 512;
    private static final int[] WILD = {-1, -2, 7, 10, 61, -61, 100, 127, 100000, Integer.MIN_VALUE, Integer.MAX_VALUE};
    private static final Check check = new Check();

    private final Random random;
    private final int run;
    private final DialWardens town = new DialWardens();
    private final Model model = new Model();
    private String waiting = "";
    private int calls;

    private RandomRunsTest(int run) {
        this.run = run;
        this.random = new Random(run);
    }

    public static void main(String[] args) {
        for (int run = 0; run < RUNS; run++) {
            new RandomRunsTest(run).calls();
        }
        check.end();
    }

    /** Up to the last call that the document promises something of. */
    private void calls() {
        while (calls < CALLS_MAX) {
            one();
            alike("digest()", () -> town.digest(), () -> model.digest());
        }
    }

    private void alike(String call, Supplier<Object> got, Supplier<Object> due) {
        if (calls == CALLS_MAX) {
            return;
        }
        calls++;
        Object answer = answered(got);
        Object right = answered(due);
        if (!answer.equals(right)) {
            check.tell("run " + run + ", call " + calls + ": " + call + " answered " + answer + ", due is " + right);
            calls = CALLS_MAX;
        }
    }

    private static Object answered(Supplier<Object> call) {
        try {
            return call.get();
        } catch (RuntimeException thrown) {
            return "throws." + thrown.getClass().getSimpleName();
        }
    }

    private int in(int least, int most) {
        if (random.nextInt(60) == 0) {
            return WILD[random.nextInt(WILD.length)];
        }
        return least + random.nextInt(most - least + 1);
    }

    private int minutes() {
        switch (random.nextInt(6)) {
            case 0: return in(0, 99999);
            case 1: return in(99900, 99999);
            case 2: return in(0, 130);
            default: return in(0, 40) + Math.max(0, Math.min(90000, model.count(1)));
        }
    }

    private int code() {
        if (waiting.isEmpty()) {
            waiting = part();
        }
        char code = waiting.charAt(0);
        waiting = waiting.substring(1);
        return random.nextInt(80) == 0 ? in(30, 130) : code;
    }

    private String part() {
        switch (random.nextInt(5)) {
            case 0: return "t" + (1 + random.nextInt(random.nextInt(30) == 0 ? 120 : 30)) + ";";
            case 1: return "v;";
            case 2: return "c;";
            case 3: return "d" + random.nextInt(7) + "+" + random.nextInt(6) + ";";
            default: return "d" + random.nextInt(7) + "-" + random.nextInt(6) + ";";
        }
    }

    private void one() {
        int a = in(0, 6);
        int b = in(0, 6);
        switch (random.nextInt(20)) {
            case 0: case 1: hands(a); break;
            case 2: case 3: town(); break;
            case 4: orders(); break;
            case 5: case 6: case 7: looks(a, b); break;
            case 8: case 9: wouldBe(a); break;
            case 10: snapshot(); break;
            default: write();
        }
    }

    private void hands(int a) {
        int minutes = minutes();
        int drift = in(-5, 5);
        int weight = random.nextInt(3) == 0 ? 0 : in(0, 9);
        int lie = in(-60, 60);
        int setting = in(0, 1);
        int value = in(0, random.nextInt(2) == 0 ? 99 : 20);
        switch (random.nextInt(4)) {
            case 0: alike("put(" + a + ", " + minutes + ")", () -> town.put(a, minutes), () -> model.put(a, minutes)); break;
            case 1: alike("drift(" + a + ", " + drift + ")", () -> town.drift(a, drift), () -> model.drift(a, drift)); break;
            case 2: alike("warden(" + a + ", " + weight + ", " + lie + ")",
                () -> town.warden(a, weight, lie), () -> model.warden(a, weight, lie)); break;
            default: alike("set(" + setting + ", " + value + ")", () -> town.set(setting, value), () -> model.set(setting, value));
        }
    }

    private void town() {
        int ticks = in(1, random.nextInt(8) == 0 ? 99 : 9);
        switch (random.nextInt(3)) {
            case 0: alike("tick(" + ticks + ")", () -> town.tick(ticks), () -> model.tick(ticks)); break;
            case 1: alike("vote()", () -> town.vote(), () -> model.vote()); break;
            default: alike("correct()", () -> town.correct(), () -> model.correct());
        }
    }

    private void write() {
        int code = code();
        alike("append(" + code + ")", () -> town.append(code), () -> model.append(code));
    }

    private void orders() {
        alike("firstError()", () -> town.firstError(), () -> model.firstError());
        switch (random.nextInt(4)) {
            case 0:
                alike("clearBuffer()", () -> town.clearBuffer(), () -> model.clearBuffer());
                waiting = "";
                break;
            default:
                while (waiting.length() > 1) {
                    write();
                }
                waiting = "";
                alike("obey()", () -> town.obey(), () -> model.obey());
                alike("append(59)", () -> town.append(';'), () -> model.append(';'));
                if (model.firstError() == 0) {
                    alike("clearBuffer()", () -> town.clearBuffer(), () -> model.clearBuffer());
                }
        }
    }

    private void snapshot() {
        switch (random.nextInt(4)) {
            case 0: alike("keep()", () -> town.keep(), () -> model.keep()); break;
            case 1: alike("goBack()", () -> town.goBack(), () -> model.goBack()); break;
            default: alike("undo()", () -> town.undo(), () -> model.undo());
        }
    }

    private void looks(int a, int b) {
        int what = in(0, 13);
        int setting = in(0, 1);
        switch (random.nextInt(4)) {
            case 0: alike("dial(" + a + ", " + b + ")", () -> town.dial(a, b), () -> model.dial(a, b)); break;
            case 1: alike("says(" + a + ", " + b + ")", () -> town.says(a, b), () -> model.says(a, b)); break;
            case 2: alike("count(" + what + ")", () -> town.count(what), () -> model.count(what)); break;
            default: alike("setting(" + setting + ")", () -> town.setting(setting), () -> model.setting(setting));
        }
    }

    private void wouldBe(int a) {
        switch (random.nextInt(7)) {
            case 0: alike("without(" + a + ")", () -> town.without(a), () -> model.without(a)); break;
            case 1: alike("pivot()", () -> town.pivot(), () -> model.pivot()); break;
            case 2: alike("wins(" + a + ")", () -> town.wins(a), () -> model.wins(a)); break;
            case 3: alike("quarrelIn(" + a + ")", () -> town.quarrelIn(a), () -> model.quarrelIn(a)); break;
            case 4: alike("ringsIn(" + a + ")", () -> town.ringsIn(a), () -> model.ringsIn(a)); break;
            case 5: alike("heldShare()", () -> town.heldShare(), () -> model.heldShare()); break;
            default: alike("meanError()", () -> town.meanError(), () -> model.meanError());
        }
    }
}
