/** Wardens of public dials who vote on what the time is. */
public final class DialWardens {
    public static final int NONE = -1;

    private static final int DIALS = 7;
    private static final int SETTINGS = 2;
    private static final int QUARREL_SETTING = 0;
    private static final int CORRECT_SETTING = 1;
    private static final int MINUTES_MAX = 99999;
    private static final int HOUR = 60;
    private static final int TICK_MINUTES = 10;
    private static final int TICKS_MAX = 99;
    private static final int DRIFT_MAX = 5;
    private static final int WEIGHT_MAX = 9;
    private static final int LIE_MAX = 60;
    private static final int SETTING_MAX = 99;
    private static final int SAVED_MAX = 6;
    private static final int TEXT_MAX = 60;
    private static final int CODE_MIN = 33;
    private static final int CODE_MAX = 126;
    private static final int LOOK_AHEAD = 200;
    private static final int DIAL_NUMBERS = 7;
    private static final int WARDEN_NUMBERS = 6;
    private static final int COUNT_NUMBERS = 14;
    private static final long HASH_START = 3863L;

    private final State now;
    private final State snapshot;
    private boolean hasSnapshot;
    private final History history;
    private final Orders orders;
    private final Poll poll;

    public DialWardens() {
        now = new State();
        snapshot = new State();
        hasSnapshot = false;
        history = new History();
        orders = new Orders();
        poll = new Poll();
    }

    // ---- the town

    public int tick(int ticks) throws IllegalArgumentException {
        if (ticks < 1 || ticks > TICKS_MAX) {
            throw new IllegalArgumentException("ticks");
        }
        history.save(now);
        return now.dials.passTicks(ticks);
    }

    public int vote() throws IllegalStateException {
        if (now.wardens.weightSum() == 0) {
            throw new IllegalStateException("all weights are 0");
        }
        history.save(now);
        holdVote();
        return now.told;
    }

    public int correct() {
        history.save(now);
        return now.correctDials();
    }

    // ---- dials, wardens, settings

    public int put(int dial, int minutes) throws IndexOutOfBoundsException, IllegalArgumentException {
        mustBeDial(dial);
        if (minutes < 0 || minutes > MINUTES_MAX) {
            throw new IllegalArgumentException("minutes");
        }
        history.save(now);
        int before = now.dials.minutes[dial];
        now.dials.moveTo(dial, minutes);
        return before;
    }

    public int drift(int dial, int drift) throws IndexOutOfBoundsException, IllegalArgumentException {
        mustBeDial(dial);
        if (drift < -DRIFT_MAX || drift > DRIFT_MAX) {
            throw new IllegalArgumentException("drift");
        }
        history.save(now);
        int before = now.dials.drifts[dial];
        now.dials.changeDrift(dial, drift);
        return before;
    }

    public int warden(int warden, int weight, int lie) throws IndexOutOfBoundsException, IllegalArgumentException {
        mustBeDial(warden);
        if (weight < 0 || weight > WEIGHT_MAX) {
            throw new IllegalArgumentException("weight");
        }
        if (lie < -LIE_MAX || lie > LIE_MAX) {
            throw new IllegalArgumentException("lie");
        }
        history.save(now);
        int before = now.wardens.weights[warden];
        now.wardens.weights[warden] = weight;
        now.wardens.lies[warden] = lie;
        return before;
    }

    public int set(int setting, int value) throws IndexOutOfBoundsException, IllegalArgumentException {
        mustBeSetting(setting);
        if (value < 0 || value > SETTING_MAX) {
            throw new IllegalArgumentException("value");
        }
        history.save(now);
        int before = now.settings[setting];
        now.settings[setting] = value;
        return before;
    }

    // ---- texts, the snapshot

    public int append(int code) throws IllegalArgumentException, IllegalStateException {
        if (code < CODE_MIN || code > CODE_MAX) {
            throw new IllegalArgumentException("code");
        }
        if (orders.length >= TEXT_MAX) {
            throw new IllegalStateException("the buffer is full");
        }
        orders.add(code);
        return orders.length;
    }

    public int clearBuffer() {
        int before = orders.length;
        orders.empty();
        return before;
    }

    public int firstError() {
        return orders.errorPlace();
    }

    public int obey() throws IllegalArgumentException {
        if (!orders.areComplete()) {
            throw new IllegalArgumentException("no complete orders");
        }
        history.save(now);
        int obeyed = 0;
        boolean goesOn = true;
        for (int place = 0; place < orders.length && goesOn; place++) {
            if (orders.isPartStart(place)) {
                goesOn = obeyPart(place);
                obeyed += goesOn ? 1 : 0;
            }
        }
        orders.empty();
        return obeyed;
    }

    public int keep() {
        snapshot.copyFrom(now);
        hasSnapshot = true;
        return now.told;
    }

    public int goBack() throws IllegalStateException {
        if (!hasSnapshot) {
            throw new IllegalStateException("no snapshot");
        }
        history.save(now);
        now.copyFrom(snapshot);
        return now.told;
    }

    public int undo() throws IllegalStateException {
        if (history.size == 0) {
            throw new IllegalStateException("no saved state");
        }
        history.restore(now);
        return history.size;
    }

    // ---- looks; nothing is changed

    public int dial(int dial, int what) throws IndexOutOfBoundsException, IllegalArgumentException {
        mustBeDial(dial);
        if (what < 0 || what >= DIAL_NUMBERS) {
            throw new IllegalArgumentException("what");
        }
        return dialNumber(dial, what);
    }

    public int says(int warden, int what) throws IndexOutOfBoundsException, IllegalArgumentException {
        mustBeDial(warden);
        if (what < 0 || what >= WARDEN_NUMBERS) {
            throw new IllegalArgumentException("what");
        }
        return wardenNumber(warden, what);
    }

    public int count(int what) throws IllegalArgumentException {
        if (what < 0 || what >= COUNT_NUMBERS) {
            throw new IllegalArgumentException("what");
        }
        return what < 7 ? townNumber(what) : sumNumber(what);
    }

    public int setting(int setting) throws IndexOutOfBoundsException {
        mustBeSetting(setting);
        return now.settings[setting];
    }

    // ---- what would be; nothing is changed

    public int without(int warden) throws IndexOutOfBoundsException {
        mustBeDial(warden);
        return middleIf(warden, 0);
    }

    public int pivot() {
        int middle = middleNow();
        if (middle == NONE) {
            return NONE;
        }
        int pivot = NONE;
        int most = -1;
        for (int warden = 0; warden < DIALS; warden++) {
            int other = middleIf(warden, 0);
            int differs = distance(other, middle);
            if (other != NONE && differs > most) {
                most = differs;
                pivot = warden;
            }
        }
        return pivot;
    }

    public int wins(int warden) throws IndexOutOfBoundsException {
        mustBeDial(warden);
        int word = now.wordOf(warden);
        for (int weight = 1; weight <= WEIGHT_MAX; weight++) {
            if (middleIf(warden, weight) == word) {
                return weight;
            }
        }
        return NONE;
    }

    public int quarrelIn(int dial) throws IndexOutOfBoundsException {
        mustBeDial(dial);
        return now.ticksToQuarrel(dial);
    }

    public int ringsIn(int dial) throws IndexOutOfBoundsException {
        mustBeDial(dial);
        return now.dials.ticksToRing(dial);
    }

    public double heldShare() {
        if (now.votes == 0) {
            return 0.0;
        }
        return (double) now.held / (double) now.votes;
    }

    public float meanError() {
        int errors = 0;
        for (int dial = 0; dial < DIALS; dial++) {
            errors += now.dials.errorOf(dial);
        }
        return (float) errors / (float) DIALS;
    }

    public long digest() {
        long hash = HASH_START;
        for (int what = 0; what < COUNT_NUMBERS; what++) {
            hash = mixed(hash, count(what));
        }
        for (int setting = 0; setting < SETTINGS; setting++) {
            hash = mixed(hash, now.settings[setting]);
        }
        for (int dial = 0; dial < DIALS; dial++) {
            hash = mixedWithDial(hash, dial);
        }
        for (int warden = 0; warden < DIALS; warden++) {
            hash = mixedWithWarden(hash, warden);
        }
        hash = mixed(hash, pivot());
        hash = mixed(hash, bitsOf(heldShare(), 52, 1023));
        hash = mixed(hash, bitsOf((double) meanError(), 23, 127));
        hash = mixed(hash, hasSnapshot ? 1L : 0L);
        hash = mixed(hash, orders.length);
        for (int place = 0; place < orders.length; place++) {
            hash = mixed(hash, orders.codeAt(place));
        }
        return hash;
    }

    private static void mustBeDial(int dial) {
        if (dial < 0 || dial >= DIALS) {
            throw new IndexOutOfBoundsException("no such dial or warden");
        }
    }

    private static void mustBeSetting(int setting) {
        if (setting < 0 || setting >= SETTINGS) {
            throw new IndexOutOfBoundsException("no such setting");
        }
    }

    private static int dialBehind(int dial) {
        return dial + 1 < DIALS ? dial + 1 : 0;
    }

    private static int dialBefore(int dial) {
        return dial > 0 ? dial - 1 : DIALS - 1;
    }

    private static int distance(int a, int b) {
        return a < b ? b - a : a - b;
    }

    private static int sum(int[] row) {
        int all = 0;
        for (int number : row) {
            all += number;
        }
        return all;
    }

    private static void copyRow(int[] from, int[] to) {
        for (int i = 0; i < to.length && i < from.length; i++) {
            to[i] = from[i];
        }
    }

    private static long mixed(long hash, long value) {
        return 31L * hash + value;
    }

    // The language has no doubleToLongBits. No share is below 0, and none that is above 0
    // is so small that its bits would need another form than this one.
    private static long bitsOf(double share, int fractionBits, int bias) {
        if (share <= 0.0) {
            return 0L;
        }
        double part = share;
        int exponent = 0;
        for (int step = 0; step < 1100 && part < 1.0; step++) {
            part = part * 2.0;
            exponent--;
        }
        for (int step = 0; step < 1100 && part >= 2.0; step++) {
            part = part / 2.0;
            exponent++;
        }
        long unit = 1L << fractionBits;
        return (long) (exponent + bias) * unit + (long) ((part - 1.0) * (double) unit);
    }

    private long mixedWithDial(long start, int dial) {
        long hash = start;
        for (int what = 0; what < DIAL_NUMBERS; what++) {
            hash = mixed(hash, dialNumber(dial, what));
        }
        hash = mixed(hash, quarrelIn(dial));
        return mixed(hash, ringsIn(dial));
    }

    private long mixedWithWarden(long start, int warden) {
        long hash = start;
        for (int what = 0; what < WARDEN_NUMBERS; what++) {
            hash = mixed(hash, wardenNumber(warden, what));
        }
        hash = mixed(hash, without(warden));
        return mixed(hash, wins(warden));
    }

    private int dialNumber(int dial, int what) {
        switch (what) {
            case 0: return now.dials.minutes[dial];
            case 1: return now.dials.accountOf(dial);
            case 2: return now.dials.drifts[dial];
            case 3: return now.dials.minutes[dial] / HOUR;
            case 4: return now.dials.bells[dial];
            case 5: return now.dials.errorOf(dial);
            default: return now.isOff(dial) ? 1 : 0;
        }
    }

    private int wardenNumber(int warden, int what) {
        switch (what) {
            case 0: return now.wardens.weights[warden];
            case 1: return now.wardens.lies[warden];
            case 2: return now.wordOf(warden);
            case 3: return now.wardens.losses[warden];
            case 4: return placeOf(warden);
            default: return (now.quarrelsBehind(warden) ? 1 : 0) + (now.quarrelsBehind(dialBefore(warden)) ? 1 : 0);
        }
    }

    private int townNumber(int what) {
        switch (what) {
            case 0: return now.dials.trueTime;
            case 1: return now.told;
            case 2: return middleNow();
            case 3: return middleNowByAdding();
            case 4: return now.wardens.weightSum();
            case 5: return now.quarrels();
            default: return now.votes;
        }
    }

    private int sumNumber(int what) {
        switch (what) {
            case 7: return now.held;
            case 8: return sum(now.dials.bells);
            case 9: return sum(now.dials.forward);
            case 10: return sum(now.dials.back);
            case 11: return now.dialsOff();
            case 12: return distance(now.told, now.dials.trueTime);
            default: return history.size;
        }
    }

    private int placeOf(int warden) {
        poll.take(now);
        return poll.placeOf(warden);
    }

    private int middleNow() {
        poll.take(now);
        return poll.middleByOrder();
    }

    private int middleNowByAdding() {
        poll.take(now);
        return poll.middleByAdding();
    }

    private int middleIf(int warden, int weight) {
        poll.take(now);
        poll.weights[warden] = weight;
        return poll.middleByOrder();
    }

    private void holdVote() {
        now.hear(middleNow());
        now.settleQuarrels(poll.words);
    }

    /** False if the part would throw, and so stops what comes behind it. */
    private boolean obeyPart(int place) {
        switch (orders.codeAt(place)) {
            case 't':
                now.dials.passTicks(orders.ticksAt(place + 1));
                return true;
            case 'v':
                if (now.wardens.weightSum() == 0) {
                    return false;
                }
                holdVote();
                return true;
            case 'c':
                now.correctDials();
                return true;
            default:
                now.dials.changeDrift(orders.figureAt(place + 1), orders.driftAt(place + 2));
                return true;
        }
    }

    /** The dials, the true time, and the account of what was done to each dial. */
    private static final class Dials {
        private int trueTime;
        private final int[] minutes = new int[DIALS];
        private final int[] drifts = new int[DIALS];
        private final int[] brought = new int[DIALS];
        private final int[] forward = new int[DIALS];
        private final int[] back = new int[DIALS];
        private final int[] bells = new int[DIALS];

        void copyFrom(Dials other) {
            trueTime = other.trueTime;
            copyRow(other.minutes, minutes);
            copyRow(other.drifts, drifts);
            copyRow(other.brought, brought);
            copyRow(other.forward, forward);
            copyRow(other.back, back);
            copyRow(other.bells, bells);
        }

        int passTicks(int ticks) {
            int rung = 0;
            for (int passed = 0; passed < ticks; passed++) {
                trueTime += TICK_MINUTES;
                for (int dial = 0; dial < DIALS; dial++) {
                    rung += passTick(dial);
                }
            }
            return rung;
        }

        private int passTick(int dial) {
            int start = minutes[dial];
            int end = afterTick(dial, start);
            minutes[dial] = end;
            brought[dial] += end - start;
            return ring(dial, start, end);
        }

        int afterTick(int dial, int start) {
            int end = start + TICK_MINUTES + drifts[dial];
            return end > MINUTES_MAX ? MINUTES_MAX : end;
        }

        private int ring(int dial, int start, int end) {
            int rung = end / HOUR - start / HOUR;
            bells[dial] += rung;
            return rung;
        }

        int moveTo(int dial, int end) {
            int start = minutes[dial];
            minutes[dial] = end;
            if (end < start) {
                back[dial] += start - end;
                return start - end;
            }
            forward[dial] += end - start;
            ring(dial, start, end);
            return end - start;
        }

        void changeDrift(int dial, int drift) {
            if (dial >= 0 && dial < DIALS) {
                drifts[dial] = drift;
            }
        }

        int accountOf(int dial) {
            return brought[dial] + forward[dial] - back[dial];
        }

        int errorOf(int dial) {
            return distance(minutes[dial], trueTime);
        }

        int ticksToRing(int dial) {
            int hour = minutes[dial] / HOUR;
            int shown = minutes[dial];
            for (int ticks = 1; ticks <= LOOK_AHEAD; ticks++) {
                shown = afterTick(dial, shown);
                if (shown / HOUR > hour) {
                    return ticks;
                }
            }
            return NONE;
        }
    }

    /** The wardens; the warden with a number looks at the dial with that number. */
    private static final class Wardens {
        private final int[] weights = new int[DIALS];
        private final int[] lies = new int[DIALS];
        private final int[] losses = new int[DIALS];

        Wardens() {
            for (int warden = 0; warden < DIALS; warden++) {
                weights[warden] = 3;
            }
        }

        void copyFrom(Wardens other) {
            copyRow(other.weights, weights);
            copyRow(other.lies, lies);
            copyRow(other.losses, losses);
        }

        int weightSum() {
            return sum(weights);
        }

        int wordFor(int warden, int minutes) {
            int word = minutes + lies[warden];
            if (word < 0) {
                return 0;
            }
            return word > MINUTES_MAX ? MINUTES_MAX : word;
        }

        void lessen(int warden) {
            if (weights[warden] > 0) {
                weights[warden]--;
                losses[warden]++;
            }
        }
    }

    /** All that undo() restores. */
    private static final class State {
        private final Dials dials = new Dials();
        private final Wardens wardens = new Wardens();
        private final int[] settings = new int[SETTINGS];
        private int told;
        private int votes;
        private int held;

        State() {
            settings[QUARREL_SETTING] = 15;
            settings[CORRECT_SETTING] = 5;
        }

        void copyFrom(State other) {
            dials.copyFrom(other.dials);
            wardens.copyFrom(other.wardens);
            copyRow(other.settings, settings);
            told = other.told;
            votes = other.votes;
            held = other.held;
        }

        int wordOf(int warden) {
            return wardens.wordFor(warden, dials.minutes[warden]);
        }

        void hear(int middle) {
            votes++;
            if (middle > told) {
                told = middle;
            } else {
                held++;
            }
        }

        void settleQuarrels(int[] words) {
            for (int dial = 0; dial < DIALS; dial++) {
                settleQuarrel(words, dial, dialBehind(dial));
            }
        }

        private void settleQuarrel(int[] words, int one, int other) {
            if (!wordsQuarrel(words[one], words[other])) {
                return;
            }
            int oneOff = distance(words[one], told);
            int otherOff = distance(words[other], told);
            if (oneOff > otherOff) {
                wardens.lessen(one);
            } else if (otherOff > oneOff) {
                wardens.lessen(other);
            }
        }

        private boolean wordsQuarrel(int one, int other) {
            return distance(one, other) > settings[QUARREL_SETTING];
        }

        boolean quarrelsBehind(int dial) {
            return wordsQuarrel(wordOf(dial), wordOf(dialBehind(dial)));
        }

        int quarrels() {
            int pairs = 0;
            for (int dial = 0; dial < DIALS; dial++) {
                pairs += quarrelsBehind(dial) ? 1 : 0;
            }
            return pairs;
        }

        int ticksToQuarrel(int dial) {
            int other = dialBehind(dial);
            int shown = dials.minutes[dial];
            int otherShown = dials.minutes[other];
            for (int ticks = 0; ticks <= LOOK_AHEAD; ticks++) {
                if (wordsQuarrel(wardens.wordFor(dial, shown), wardens.wordFor(other, otherShown))) {
                    return ticks;
                }
                shown = dials.afterTick(dial, shown);
                otherShown = dials.afterTick(other, otherShown);
            }
            return NONE;
        }

        boolean isOff(int dial) {
            return distance(dials.minutes[dial], told) > settings[CORRECT_SETTING];
        }

        int dialsOff() {
            int off = 0;
            for (int dial = 0; dial < DIALS; dial++) {
                off += isOff(dial) ? 1 : 0;
            }
            return off;
        }

        int correctDials() {
            int moved = 0;
            for (int dial = 0; dial < DIALS; dial++) {
                if (isOff(dial)) {
                    moved += dials.moveTo(dial, nearestAllowed(dial));
                }
            }
            return moved;
        }

        private int nearestAllowed(int dial) {
            int slack = settings[CORRECT_SETTING];
            return dials.minutes[dial] < told ? told - slack : told + slack;
        }
    }

    /** The words and weights of one vote; its rows are made once and used for every vote. */
    private static final class Poll {
        private final int[] words = new int[DIALS];
        private final int[] weights = new int[DIALS];
        private final int[] order = new int[DIALS];

        void take(State state) {
            for (int warden = 0; warden < DIALS; warden++) {
                words[warden] = state.wordOf(warden);
                weights[warden] = state.wardens.weights[warden];
            }
        }

        int placeOf(int warden) {
            int place = 0;
            for (int other = 0; other < DIALS; other++) {
                if (words[other] < words[warden] || (words[other] == words[warden] && other < warden)) {
                    place++;
                }
            }
            return place;
        }

        int middleByOrder() {
            for (int warden = 0; warden < DIALS; warden++) {
                int place = placeOf(warden);
                if (place < order.length) {
                    order[place] = warden;
                }
            }
            int all = sum(weights);
            int reached = 0;
            for (int warden : order) {
                reached += weights[warden];
                if (weights[warden] > 0 && 2 * reached >= all) {
                    return words[warden];
                }
            }
            return NONE;
        }

        int middleByAdding() {
            int all = sum(weights);
            for (int warden = 0; warden < DIALS; warden++) {
                int less = weightBelow(words[warden]);
                int upTo = less + weightAt(words[warden]);
                if (weights[warden] > 0 && 2 * less < all && 2 * upTo >= all) {
                    return words[warden];
                }
            }
            return NONE;
        }

        private int weightBelow(int word) {
            int weight = 0;
            for (int warden = 0; warden < DIALS; warden++) {
                weight += words[warden] < word ? weights[warden] : 0;
            }
            return weight;
        }

        private int weightAt(int word) {
            int weight = 0;
            for (int warden = 0; warden < DIALS; warden++) {
                weight += words[warden] == word ? weights[warden] : 0;
            }
            return weight;
        }
    }

    /** The buffer, read as orders. */
    private static final class Orders {
        private static final int WRONG = -1;
        private static final int PART = 0;
        private static final int TICKS = 1;
        private static final int MORE_TICKS = 2;
        private static final int PART_END = 3;
        private static final int DIAL = 4;
        private static final int SIGN = 5;
        private static final int FIGURE = 6;

        private final int[] codes = new int[TEXT_MAX];
        private int length;

        void add(int code) {
            if (length >= 0 && length < codes.length) {
                codes[length] = code;
                length++;
            }
        }

        void empty() {
            length = 0;
        }

        int codeAt(int place) {
            return place >= 0 && place < length && place < codes.length ? codes[place] : 0;
        }

        int errorPlace() {
            int due = PART;
            for (int place = 0; place < length; place++) {
                due = dueAfter(due, codeAt(place));
                if (due == WRONG) {
                    return place;
                }
            }
            return length;
        }

        boolean areComplete() {
            int due = PART;
            for (int place = 0; place < length && due != WRONG; place++) {
                due = dueAfter(due, codeAt(place));
            }
            return due == MORE_TICKS || due == PART_END;
        }

        private static int dueAfter(int due, int code) {
            switch (due) {
                case PART: return dueAfterKind(code);
                case TICKS: return isWithin(code, '1', '9') ? MORE_TICKS : WRONG;
                case MORE_TICKS: return isWithin(code, '0', '9') ? PART_END : dueAfterPart(code);
                case PART_END: return dueAfterPart(code);
                case DIAL: return isWithin(code, '0', '6') ? SIGN : WRONG;
                case SIGN: return code == '+' || code == '-' ? FIGURE : WRONG;
                case FIGURE: return isWithin(code, '0', '5') ? PART_END : WRONG;
                default: return WRONG;
            }
        }

        private static int dueAfterKind(int code) {
            switch (code) {
                case 't': return TICKS;
                case 'v': return PART_END;
                case 'c': return PART_END;
                case 'd': return DIAL;
                default: return WRONG;
            }
        }

        private static int dueAfterPart(int code) {
            return code == ';' ? PART : WRONG;
        }

        private static boolean isWithin(int code, int least, int most) {
            return code >= least && code <= most;
        }

        boolean isPartStart(int place) {
            return place == 0 || codeAt(place - 1) == ';';
        }

        int figureAt(int place) {
            return codeAt(place) - '0';
        }

        int ticksAt(int place) {
            int ticks = figureAt(place);
            return isWithin(codeAt(place + 1), '0', '9') ? 10 * ticks + figureAt(place + 1) : ticks;
        }

        int driftAt(int place) {
            int figure = figureAt(place + 1);
            return codeAt(place) == '-' ? -figure : figure;
        }
    }

    /** The saved states, the oldest one first; its states are made once and written over. */
    private static final class History {
        private final State[] states = new State[SAVED_MAX];
        private int size;

        History() {
            for (int i = 0; i < SAVED_MAX; i++) {
                states[i] = new State();
            }
        }

        void save(State state) {
            if (size >= SAVED_MAX) {
                dropOldest();
            }
            State next = stateAt(size);
            if (next != null) {
                next.copyFrom(state);
                size++;
            }
        }

        private State stateAt(int place) {
            return place >= 0 && place < states.length ? states[place] : null;
        }

        private void dropOldest() {
            State oldest = states[0];
            for (int i = 1; i < SAVED_MAX; i++) {
                states[i - 1] = states[i];
            }
            states[SAVED_MAX - 1] = oldest;
            size--;
        }

        void restore(State state) {
            State latest = stateAt(size - 1);
            if (latest != null) {
                state.copyFrom(latest);
                size--;
            }
        }
    }
}
