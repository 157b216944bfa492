/** Towns and wrong numbers that several tests begin with. */
final class Towns {
    static final int[] NO_DIALS = {-1, 7, Integer.MIN_VALUE, Integer.MAX_VALUE};
    static final int[] NO_SETTINGS = {-1, 2, Integer.MIN_VALUE, Integer.MAX_VALUE};

    /** Its dials were put, one by one from dial 0 on, to these minutes. */
    static DialWardens showing(int... minutes) {
        DialWardens x = new DialWardens();
        for (int dial = 0; dial < minutes.length; dial++) {
            x.put(dial, minutes[dial]);
        }
        return x;
    }

    static DialWardens allAt(int minutes) {
        return showing(minutes, minutes, minutes, minutes, minutes, minutes, minutes);
    }

    /** All its dials show what the town tells. */
    static DialWardens telling(int minutes) {
        DialWardens x = allAt(minutes);
        x.vote();
        return x;
    }

    static void weigh(DialWardens x, int... weights) {
        for (int warden = 0; warden < weights.length; warden++) {
            x.warden(warden, weights[warden], 0);
        }
    }

    static void weighNothing(DialWardens x) {
        weigh(x, 0, 0, 0, 0, 0, 0, 0);
    }

    /** Wardens with these weights say these words, and tell no lies. */
    static DialWardens saying(int[] weights, int... words) {
        DialWardens x = showing(words);
        weigh(x, weights);
        return x;
    }

    static int[] weights(int... weights) {
        return weights;
    }

    /** All that the looks tell but for the saved states, as a text; it takes 106 calls. */
    static String looks(DialWardens x) {
        StringBuilder text = new StringBuilder();
        for (int what = 0; what < 13; what++) {
            text.append(x.count(what)).append(' ');
        }
        text.append(x.setting(0)).append(' ').append(x.setting(1));
        for (int dial = 0; dial < 7; dial++) {
            text.append("; dial ").append(dial);
            for (int what = 0; what < 7; what++) {
                text.append(' ').append(x.dial(dial, what));
            }
            for (int what = 0; what < 6; what++) {
                text.append(' ').append(x.says(dial, what));
            }
        }
        return text.toString();
    }
}
