import java.util.function.IntSupplier;

/** Counts and prints the answers of a test that are not the ones that are due. */
final class Check {
    private int wrong;

    void same(String what, long got, long due) {
        if (got != due) {
            tell(what + " answered " + got + ", due is " + due);
        }
    }

    void sameDouble(String what, double got, double due) {
        if (Double.doubleToLongBits(got) != Double.doubleToLongBits(due)) {
            tell(what + " answered " + got + ", due is " + due);
        }
    }

    /** The call must throw this very exception, and change nothing that the digest sees. */
    void refuses(DialWardens town, String what, Class<? extends RuntimeException> kind, IntSupplier call) {
        long before = town.digest();
        try {
            int got = call.getAsInt();
            tell(what + " answered " + got + ", due is " + kind.getSimpleName());
        } catch (RuntimeException thrown) {
            if (thrown.getClass() != kind) {
                tell(what + " threw " + thrown + ", due is " + kind.getSimpleName());
            }
        }
        if (town.digest() != before) {
            tell(what + " changed something");
        }
    }

    void tell(String fault) {
        wrong++;
        System.out.println(fault);
    }

    void end() {
        if (wrong > 0) {
            System.out.println(wrong + " wrong answers");
            System.exit(1);
        }
    }

    static void append(DialWardens town, String text) {
        for (char code : text.toCharArray()) {
            town.append(code);
        }
    }
}
