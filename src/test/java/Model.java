import java.util.ArrayList;
import java.util.Comparator;
import java.util.List;
import java.util.regex.Pattern;

/** The document once more, in the plainest words and with the whole library, to be compared with the class. */
final class Model {
    private static final String PART = "(t[1-9][0-9]?|v|c|d[0-6][+-][0-5])";
    private static final Pattern ORDERS = Pattern.compile(PART + "(;" + PART + ")*");
    private static final String[] ENDINGS = {"", "v", "1", "0+0", "+0", "0"};

    static final class World {
        int time;
        int told;
        int votes;
        int held;
        int forward;
        int back;
        int[] settings = {15, 5};
        int[][] dials = new int[7][4];
        int[][] wardens = new int[7][3];

        World copy() {
            World other = new World();
            other.time = time;
            other.told = told;
            other.votes = votes;
            other.held = held;
            other.forward = forward;
            other.back = back;
            other.settings = settings.clone();
            for (int i = 0; i < 7; i++) {
                other.dials[i] = dials[i].clone();
                other.wardens[i] = wardens[i].clone();
            }
            return other;
        }
    }

    private static final int SHOWN = 0;
    private static final int DRIFT = 1;
    private static final int BELLS = 2;
    private static final int ACCOUNT = 3;
    private static final int WEIGHT = 0;
    private static final int LIE = 1;
    private static final int LOSSES = 2;

    private World world = new World();
    private World snapshot;
    private final List<World> saved = new ArrayList<>();
    private String buffer = "";

    Model() {
        for (int[] warden : world.wardens) {
            warden[WEIGHT] = 3;
        }
    }

    private void save() {
        saved.add(world.copy());
        while (saved.size() > 6) {
            saved.remove(0);
        }
    }

    private static void place(boolean right) {
        if (!right) {
            throw new IndexOutOfBoundsException();
        }
    }

    private static void argument(boolean right) {
        if (!right) {
            throw new IllegalArgumentException();
        }
    }

    private static void state(boolean right) {
        if (!right) {
            throw new IllegalStateException();
        }
    }

    private static boolean in(int number, int least, int most) {
        return least <= number && number <= most;
    }

    private int hoursIn(int start, int end) {
        int hours = 0;
        for (int hour = 60; hour <= end; hour += 60) {
            hours += hour > start ? 1 : 0;
        }
        return hours;
    }

    private int passOne() {
        world.time += 10;
        int rung = 0;
        for (int[] dial : world.dials) {
            int end = Math.min(99999, dial[SHOWN] + 10 + dial[DRIFT]);
            int hours = end / 60 == dial[SHOWN] / 60 ? 0 : hoursIn(dial[SHOWN], end);
            dial[BELLS] += hours;
            rung += hours;
            dial[ACCOUNT] += end - dial[SHOWN];
            dial[SHOWN] = end;
        }
        return rung;
    }

    private int pass(int ticks) {
        int rung = 0;
        for (int i = 0; i < ticks; i++) {
            rung += passOne();
        }
        return rung;
    }

    private void move(int[] dial, int end) {
        int start = dial[SHOWN];
        if (end > start) {
            dial[BELLS] += hoursIn(start, end);
            world.forward += end - start;
        } else {
            world.back += start - end;
        }
        dial[ACCOUNT] += end - start;
        dial[SHOWN] = end;
    }

    private int word(int warden) {
        return Math.max(0, Math.min(99999, world.dials[warden][SHOWN] + world.wardens[warden][LIE]));
    }

    private int middle(int warden, int weight) {
        List<Integer> words = new ArrayList<>();
        for (int i = 0; i < 7; i++) {
            int times = i == warden ? weight : world.wardens[i][WEIGHT];
            for (int k = 0; k < times; k++) {
                words.add(word(i));
            }
        }
        words.sort(Comparator.naturalOrder());
        return words.isEmpty() ? -1 : words.get((words.size() + 1) / 2 - 1);
    }

    private int middle() {
        return middle(-1, 0);
    }

    private boolean quarrel(int dial) {
        return Math.abs(word(dial) - word((dial + 1) % 7)) > world.settings[0];
    }

    private void poll() {
        int middle = middle();
        world.votes++;
        world.held += middle > world.told ? 0 : 1;
        world.told = Math.max(middle, world.told);
        for (int dial = 0; dial < 7; dial++) {
            int other = (dial + 1) % 7;
            int lead = Math.abs(word(dial) - world.told) - Math.abs(word(other) - world.told);
            if (quarrel(dial) && lead != 0) {
                int[] loser = world.wardens[lead > 0 ? dial : other];
                if (loser[WEIGHT] > 0) {
                    loser[WEIGHT]--;
                    loser[LOSSES]++;
                }
            }
        }
    }

    private int correctAll() {
        int moved = 0;
        for (int[] dial : world.dials) {
            int start = dial[SHOWN];
            int end = Math.max(world.told - world.settings[1], Math.min(world.told + world.settings[1], start));
            move(dial, end);
            moved += Math.abs(end - start);
        }
        return moved;
    }

    int tick(int ticks) {
        argument(in(ticks, 1, 99));
        save();
        return pass(ticks);
    }

    int vote() {
        state(middle() != -1);
        save();
        poll();
        return world.told;
    }

    int correct() {
        save();
        return correctAll();
    }

    int put(int dial, int minutes) {
        place(in(dial, 0, 6));
        argument(in(minutes, 0, 99999));
        save();
        int before = world.dials[dial][SHOWN];
        move(world.dials[dial], minutes);
        return before;
    }

    int drift(int dial, int drift) {
        place(in(dial, 0, 6));
        argument(in(drift, -5, 5));
        save();
        int before = world.dials[dial][DRIFT];
        world.dials[dial][DRIFT] = drift;
        return before;
    }

    int warden(int warden, int weight, int lie) {
        place(in(warden, 0, 6));
        argument(in(weight, 0, 9) && in(lie, -60, 60));
        save();
        int before = world.wardens[warden][WEIGHT];
        world.wardens[warden][WEIGHT] = weight;
        world.wardens[warden][LIE] = lie;
        return before;
    }

    int set(int setting, int value) {
        place(in(setting, 0, 1));
        argument(in(value, 0, 99));
        save();
        int before = world.settings[setting];
        world.settings[setting] = value;
        return before;
    }

    int append(int code) {
        argument(in(code, 33, 126));
        state(buffer.length() < 60);
        buffer += (char) code;
        return buffer.length();
    }

    int clearBuffer() {
        int before = buffer.length();
        buffer = "";
        return before;
    }

    int firstError() {
        for (int end = 1; end <= buffer.length(); end++) {
            boolean begins = false;
            for (String ending : ENDINGS) {
                begins |= ORDERS.matcher(buffer.substring(0, end) + ending).matches();
            }
            if (!begins) {
                return end - 1;
            }
        }
        return buffer.length();
    }

    int obey() {
        argument(ORDERS.matcher(buffer).matches());
        save();
        int obeyed = 0;
        for (String part : buffer.split(";")) {
            if (part.charAt(0) == 't') {
                pass(Integer.parseInt(part.substring(1)));
            } else if (part.equals("v")) {
                if (middle() == -1) {
                    break;
                }
                poll();
            } else if (part.equals("c")) {
                correctAll();
            } else {
                world.dials[part.charAt(1) - '0'][DRIFT] = Integer.parseInt(part.substring(2));
            }
            obeyed++;
        }
        buffer = "";
        return obeyed;
    }

    int keep() {
        snapshot = world.copy();
        return world.told;
    }

    int goBack() {
        state(snapshot != null);
        save();
        world = snapshot.copy();
        return world.told;
    }

    int undo() {
        state(!saved.isEmpty());
        world = saved.remove(saved.size() - 1);
        return saved.size();
    }

    private boolean isOff(int dial) {
        return Math.abs(world.dials[dial][SHOWN] - world.told) > world.settings[1];
    }

    int dial(int dial, int what) {
        place(in(dial, 0, 6));
        argument(in(what, 0, 6));
        int[] row = world.dials[dial];
        int[] all = {row[SHOWN], row[ACCOUNT], row[DRIFT], row[SHOWN] / 60, row[BELLS],
            Math.abs(row[SHOWN] - world.time), isOff(dial) ? 1 : 0};
        return all[what];
    }

    int says(int warden, int what) {
        place(in(warden, 0, 6));
        argument(in(what, 0, 5));
        List<Integer> order = new ArrayList<>();
        for (int i = 0; i < 7; i++) {
            order.add(i);
        }
        order.sort(Comparator.comparingInt(this::word));
        int[] row = world.wardens[warden];
        int quarrels = (quarrel(warden) ? 1 : 0) + (quarrel((warden + 6) % 7) ? 1 : 0);
        int[] all = {row[WEIGHT], row[LIE], word(warden), row[LOSSES], order.indexOf(warden), quarrels};
        return all[what];
    }

    int count(int what) {
        argument(in(what, 0, 13));
        int weights = 0;
        int pairs = 0;
        int bells = 0;
        int off = 0;
        for (int i = 0; i < 7; i++) {
            weights += world.wardens[i][WEIGHT];
            pairs += quarrel(i) ? 1 : 0;
            bells += world.dials[i][BELLS];
            off += isOff(i) ? 1 : 0;
        }
        int[] all = {world.time, world.told, middle(), middle(), weights, pairs, world.votes, world.held, bells,
            world.forward, world.back, off, Math.abs(world.told - world.time), saved.size()};
        return all[what];
    }

    int setting(int setting) {
        place(in(setting, 0, 1));
        return world.settings[setting];
    }

    int without(int warden) {
        place(in(warden, 0, 6));
        return middle(warden, 0);
    }

    int pivot() {
        int best = -1;
        for (int warden = 6; warden >= 0 && middle() != -1; warden--) {
            int differs = Math.abs(middle(warden, 0) - middle());
            if (middle(warden, 0) != -1 && (best == -1 || differs >= Math.abs(middle(best, 0) - middle()))) {
                best = warden;
            }
        }
        return best;
    }

    int wins(int warden) {
        place(in(warden, 0, 6));
        for (int weight = 1; weight <= 9; weight++) {
            if (middle(warden, weight) == word(warden)) {
                return weight;
            }
        }
        return -1;
    }

    int quarrelIn(int dial) {
        place(in(dial, 0, 6));
        World now = world;
        world = now.copy();
        int found = -1;
        for (int ticks = 0; ticks <= 200 && found == -1; ticks++) {
            found = quarrel(dial) ? ticks : -1;
            passOne();
        }
        world = now;
        return found;
    }

    int ringsIn(int dial) {
        place(in(dial, 0, 6));
        World now = world;
        world = now.copy();
        int found = -1;
        for (int ticks = 1; ticks <= 200 && found == -1; ticks++) {
            passOne();
            found = world.dials[dial][BELLS] > now.dials[dial][BELLS] ? ticks : -1;
        }
        world = now;
        return found;
    }

    double heldShare() {
        return world.votes == 0 ? 0.0 : (double) world.held / world.votes;
    }

    float meanError() {
        int errors = 0;
        for (int dial = 0; dial < 7; dial++) {
            errors += dial(dial, 5);
        }
        return (float) errors / 7;
    }

    long digest() {
        List<Long> values = new ArrayList<>();
        for (int what = 0; what < 14; what++) {
            values.add((long) count(what));
        }
        values.add((long) setting(0));
        values.add((long) setting(1));
        for (int dial = 0; dial < 7; dial++) {
            for (int what = 0; what < 7; what++) {
                values.add((long) dial(dial, what));
            }
            values.add((long) quarrelIn(dial));
            values.add((long) ringsIn(dial));
        }
        for (int warden = 0; warden < 7; warden++) {
            for (int what = 0; what < 6; what++) {
                values.add((long) says(warden, what));
            }
            values.add((long) without(warden));
            values.add((long) wins(warden));
        }
        values.add((long) pivot());
        values.add(Double.doubleToLongBits(heldShare()));
        values.add((long) Float.floatToIntBits(meanError()));
        values.add(snapshot == null ? 0L : 1L);
        values.add((long) buffer.length());
        buffer.chars().forEach(code -> values.add((long) code));
        long hash = 3863;
        for (long value : values) {
            hash = 31 * hash + value;
        }
        return hash;
    }
}
