import java.util.LinkedHashSet;
import java.util.Set;
import java.util.function.IntSupplier;

/** Counts and prints the answers of a test that are not the ones that are due. */
final class Check {
    private static final int SECONDS_MAX = 300;

    private static final Set<String> NAMED = new LinkedHashSet<>();

    private int wrong;
    private String tested = "";

    Check() {
        Thread guard = new Thread(this::stopWhatDoesNotEnd);
        guard.setDaemon(true);
        guard.start();
    }

    /** A call that fails to end is a fault like another one, and must not keep .ci/run waiting. */
    private void stopWhatDoesNotEnd() {
        try {
            Thread.sleep(SECONDS_MAX * 1000L);
        } catch (InterruptedException none) {
            return;
        }
        System.out.println(tested + "no end within " + SECONDS_MAX + " seconds");
        Runtime.getRuntime().halt(1);
    }

    /** What follows tests these words of the document; SentencesTest looks whether they stand there. */
    void promise(int number, String words) {
        tested = "promise " + number + ", \"" + words + "\": ";
        NAMED.add(number + " " + words);
    }

    /** The number of a promise and the words of each sentence that a test has named so far. */
    static Set<String> named() {
        return NAMED;
    }

    void same(String what, long got, long due) {
        if (got != due) {
            tell(what + " answered " + got + ", due is " + due);
        }
    }

    void sameDouble(String what, double got, double due) {
        if (Double.doubleToLongBits(got) != Double.doubleToLongBits(due)) {
            tell(what + " answered " + got + ", due is " + due);
        }
    }

    /** The call must throw this very exception, and change nothing that the digest sees. */
    void refuses(DialWardens town, String what, Class<? extends RuntimeException> kind, IntSupplier call) {
        long before = town.digest();
        try {
            int got = call.getAsInt();
            tell(what + " answered " + got + ", due is " + kind.getSimpleName());
        } catch (RuntimeException thrown) {
            if (thrown.getClass() != kind) {
                tell(what + " threw " + thrown + ", due is " + kind.getSimpleName());
            }
        }
        if (town.digest() != before) {
            tell(what + " changed something");
        }
    }

    void tell(String fault) {
        wrong++;
        System.out.println(tested + fault);
    }

    void end() {
        if (wrong > 0) {
            System.out.println(wrong + " wrong answers");
            System.exit(1);
        }
    }

    static void append(DialWardens town, String text) {
        for (char code : text.toCharArray()) {
            town.append(code);
        }
    }
}
