/** Analyzes the stability of a clock by the phases that were read at equal times. */
public final class StabilityAnalyzer {
    public static final int NONE = -1000000001, BAD = -1000000002, STATE = -1000000003, FULL = -1000000004, LARGE = -1000000005;

    private static final int MOST_READINGS = 64;
    private static final int MOST_PHASE = 99999;
    private static final int MOST_SLOPE = 9999;
    private static final int MOST_STATES = 8;
    private static final int MOST_BYTES = 120;
    private static final int MOST_IMAGES = 2;
    private static final int MOST_STRIDE = 16;
    private static final int MOST_M = 31;
    private static final int MOST_NOISE_M = 15;

    private static final int SECOND = 2;
    private static final int THIRD = 3;
    private static final int MEAN = 4;

    private static final int ALLAN = 0;
    private static final int HADAMARD = 1;
    private static final int MODIFIED = 2;
    private static final int TIME = 3;

    private static final int WRONG_BYTE = 1;
    private static final int WRONG_NUMBER = 2;
    private static final int TOO_MANY = 3;

    private static final long DEVIATION_SCALE = 1000000L;

    private final Readings now;
    private final Readings next;
    private final long[] amounts;
    private final History history;
    private final Image[] images;
    private final Text text;
    private final Loader loader;
    private final Fraction one;
    private final Fraction two;

    public StabilityAnalyzer() {
        now = new Readings();
        next = new Readings();
        amounts = new long[MOST_READINGS];
        history = new History();
        images = new Image[MOST_IMAGES];
        for (int i = 0; i < images.length; i++) {
            images[i] = new Image();
        }
        text = new Text();
        loader = new Loader();
        one = new Fraction();
        two = new Fraction();
    }

    // ---- readings

    public int add(int x) {
        if (!isPhase(x)) {
            return BAD;
        }
        if (now.size() >= MOST_READINGS) {
            return FULL;
        }
        history.record(now);
        now.append(x);
        return now.size() - 1;
    }

    public int skip(int n) {
        if (n < 1 || n > MOST_READINGS) {
            return BAD;
        }
        if (now.size() + n > MOST_READINGS) {
            return FULL;
        }
        history.record(now);
        now.appendTimes(NONE, n);
        return now.size();
    }

    public int set(int i, int x) {
        if (!now.reaches(i) || (x != NONE && !isPhase(x))) {
            return BAD;
        }
        int previous = now.at(i);
        history.record(now);
        now.put(i, x);
        return previous;
    }

    public int clear() {
        int removed = now.size();
        history.record(now);
        now.empty();
        return removed;
    }

    public int removeLine(int i, int j) {
        if (!now.reaches(i) || !now.reaches(j) || j <= i) {
            return BAD;
        }
        if (!now.has(i) || !now.has(j)) {
            return STATE;
        }
        for (int t = 0; t < amounts.length; t++) {
            amounts[t] = now.lineAt(i, j, t);
        }
        return subtractAmounts();
    }

    public int addLine(int slope, int offset) {
        if (slope < -MOST_SLOPE || slope > MOST_SLOPE || !isPhase(offset)) {
            return BAD;
        }
        for (int t = 0; t < amounts.length; t++) {
            amounts[t] = -((long) slope * t + offset);
        }
        return subtractAmounts();
    }

    public int removeDrift() {
        int number = now.countOf(SECOND, 1);
        if (number < 1) {
            return STATE;
        }
        int drift = (int) Math.floorDiv(sumOfSecondDifferences(), (long) number);
        for (int t = 0; t < amounts.length; t++) {
            amounts[t] = (long) drift * t * (t - 1) / 2;
        }
        return subtractAmounts() == LARGE ? LARGE : drift;
    }

    public int removeOutliers(int limit) {
        if (!isLimit(limit)) {
            return BAD;
        }
        int removed = 0;
        next.copyFrom(now);
        for (int i = 0; i < now.size(); i++) {
            if (now.isOutlier(i, limit)) {
                next.put(i, NONE);
                removed++;
            }
        }
        history.record(now);
        now.copyFrom(next);
        return removed;
    }

    public int fill(int longest) {
        if (longest < 1 || longest > MOST_READINGS) {
            return BAD;
        }
        history.record(now);
        int filled = 0;
        for (int i = 1; i < now.size(); i++) {
            if (now.has(i - 1) && !now.has(i)) {
                int end = now.gapEnd(i);
                if (end < now.size() && end - i <= longest) {
                    fillGap(i, end);
                    filled += end - i;
                }
            }
        }
        return filled;
    }

    public int thin(int every, int first) {
        if (every < 1 || every > MOST_STRIDE || first < 0 || first >= every) {
            return BAD;
        }
        next.empty();
        for (int i = first; i < now.size(); i += every) {
            next.append(now.at(i));
        }
        history.record(now);
        now.copyFrom(next);
        return now.size();
    }

    public int undo() {
        if (history.depth() == 0) {
            return STATE;
        }
        history.restore(now);
        return history.depth();
    }

    // ---- what is told

    public int told(int what) {
        switch (what) {
            case 0:
                return now.size();
            case 1:
                return now.present();
            case 2:
                return now.least();
            case 3:
                return now.greatest();
            case 4:
                return now.gaps();
            case 5:
                return now.longestGap();
            case 6:
                return greatestM();
            case 7:
                return text.size();
            case 8:
                return history.depth();
            default:
                return BAD;
        }
    }

    public int reading(int i) {
        if (!now.reaches(i)) {
            return BAD;
        }
        return now.at(i);
    }

    public int difference(int order, int m, int i) {
        if (!isOrder(order) || !isM(m) || i < 0) {
            return BAD;
        }
        return now.differenceAt(order, m, i);
    }

    public int count(int order, int m) {
        if (!isOrder(order) || !isM(m)) {
            return BAD;
        }
        return now.countOf(order, m);
    }

    public long variance(int which, int m, int part) {
        if (!isVariance(which) || !isM(m) || part < 0 || part > 1) {
            return BAD;
        }
        measure(which, m, one);
        if (!one.exists()) {
            return NONE;
        }
        return part == 0 ? one.numerator : one.denominator;
    }

    public long deviation(int which, int m) {
        if (!isVariance(which) || !isM(m)) {
            return BAD;
        }
        measure(which, m, one);
        if (!one.exists()) {
            return NONE;
        }
        return squareRoot(one.timesRoundedDown(DEVIATION_SCALE));
    }

    public int compare(int which, int m, int other) {
        if (!isVariance(which) || !isM(m) || !isM(other)) {
            return BAD;
        }
        measure(which, m, one);
        measure(which, other, two);
        if (!one.exists() || !two.exists()) {
            return NONE;
        }
        int order = one.orderOfMultiples(1, two, 1);
        if (order == 0) {
            return 0;
        }
        return order < 0 ? 1 : 2;
    }

    public int best(int which) {
        if (!isVariance(which)) {
            return BAD;
        }
        int found = NONE;
        for (int m = 1; m <= MOST_M; m++) {
            measure(which, m, one);
            if (one.exists() && (found == NONE || one.orderOfMultiples(1, two, 1) < 0)) {
                two.copyFrom(one);
                found = m;
            }
        }
        return found;
    }

    public int noise(int m) {
        if (m < 1 || m > MOST_NOISE_M) {
            return BAD;
        }
        return kindOfNoise(m);
    }

    public int freedom(int m) {
        if (m < 1 || m > MOST_NOISE_M) {
            return BAD;
        }
        int kind = kindOfNoise(m);
        if (kind == NONE) {
            return NONE;
        }
        return Math.max(1, degreesOfFreedom(kind, now.countOf(SECOND, m), m));
    }

    public int outliers(int limit) {
        if (!isLimit(limit)) {
            return BAD;
        }
        int found = 0;
        for (int i = 0; i < now.size(); i++) {
            if (now.isOutlier(i, limit)) {
                found++;
            }
        }
        return found;
    }

    // ---- the text

    public int write(int code) {
        if (code < 32 || code > 126) {
            return BAD;
        }
        if (text.size() >= MOST_BYTES) {
            return FULL;
        }
        text.append(code);
        return text.size();
    }

    public int wipe() {
        int removed = text.size();
        text.empty();
        return removed;
    }

    public int load() {
        if (!loader.readsAll(text, next)) {
            return STATE;
        }
        history.record(now);
        now.copyFrom(next);
        return now.size();
    }

    public int fault(int what) {
        if (what < 0 || what > 1) {
            return BAD;
        }
        return what == 0 ? loader.faultKind : loader.faultPlace;
    }

    // ---- images

    public int keep(int i) {
        Image image = imageAt(i);
        if (image == null) {
            return BAD;
        }
        image.readings.copyFrom(now);
        image.used = true;
        return now.size();
    }

    public int back(int i) {
        Image image = imageAt(i);
        if (image == null) {
            return BAD;
        }
        if (!image.used) {
            return STATE;
        }
        history.record(now);
        now.copyFrom(image.readings);
        return now.size();
    }

    // ---- the ranges of arguments

    private static boolean isPhase(long x) {
        return x >= -MOST_PHASE && x <= MOST_PHASE;
    }

    private static boolean isLimit(int limit) {
        return limit >= 0 && limit <= MOST_PHASE;
    }

    private static boolean isOrder(int order) {
        return order >= SECOND && order <= MEAN;
    }

    private static boolean isM(int m) {
        return m >= 1 && m <= MOST_M;
    }

    private static boolean isVariance(int which) {
        return which >= ALLAN && which <= TIME;
    }

    private Image imageAt(int i) {
        if (i < 0 || i >= images.length) {
            return null;
        }
        return images[i];
    }

    // ---- lines, drift and gaps

    private int subtractAmounts() {
        if (!allStayPhases()) {
            return LARGE;
        }
        history.record(now);
        int different = 0;
        for (int t = 0; t < now.size() && t < amounts.length; t++) {
            if (now.has(t) && amounts[t] != 0) {
                now.put(t, (int) (now.at(t) - amounts[t]));
                different++;
            }
        }
        return different;
    }

    private boolean allStayPhases() {
        for (int t = 0; t < now.size() && t < amounts.length; t++) {
            if (now.has(t) && !isPhase(now.at(t) - amounts[t])) {
                return false;
            }
        }
        return true;
    }

    private long sumOfSecondDifferences() {
        long sum = 0;
        for (int i = 0; i < now.size(); i++) {
            int difference = now.differenceAt(SECOND, 1, i);
            if (difference != NONE) {
                sum += difference;
            }
        }
        return sum;
    }

    private void fillGap(int start, int end) {
        for (int t = start; t < end; t++) {
            now.put(t, (int) now.lineAt(start - 1, end, t));
        }
    }

    // ---- variances and noise

    private int greatestM() {
        for (int m = MOST_M; m >= 1; m--) {
            if (now.countOf(SECOND, m) > 0) {
                return m;
            }
        }
        return 0;
    }

    private void measure(int which, int m, Fraction result) {
        int order = orderFor(which);
        long sum = 0;
        long number = 0;
        for (int i = 0; i < now.size(); i++) {
            long difference = now.differenceAt(order, m, i);
            if (difference != NONE) {
                sum += difference * difference;
                number++;
            }
        }
        result.become(sum, divisorFor(which, m) * number);
    }

    private static int orderFor(int which) {
        if (which == ALLAN) {
            return SECOND;
        }
        return which == HADAMARD ? THIRD : MEAN;
    }

    private static long divisorFor(int which, long m) {
        switch (which) {
            case ALLAN:
                return 2 * m * m;
            case MODIFIED:
                return 2 * m * m * m * m;
            default:
                // The time variance is the modified one times m * m / 3, so
                // that two of its four factors m are gone: it is left with the
                // same divisor as the Hadamard variance.
                return 6 * m * m;
        }
    }

    private static long squareRoot(long value) {
        long root = 0;
        for (int place = 30; place >= 0; place--) {
            long tried = root + (1L << place);
            if (tried * tried <= value) {
                root = tried;
            }
        }
        return root;
    }

    private int kindOfNoise(int m) {
        measure(ALLAN, m, one);
        measure(ALLAN, 2 * m, two);
        if (!one.exists() || !two.exists() || one.numerator == 0) {
            return NONE;
        }
        int kind = 0;
        for (int factor = 8; factor >= 1; factor /= 2) {
            if (two.orderOfMultiples(factor, one, 3) <= 0) {
                return kind;
            }
            kind++;
        }
        return kind;
    }

    private static int degreesOfFreedom(int kind, int n, int m) {
        if (n < 1 || m < 1) {
            return 0;
        }
        switch (kind) {
            case 0:
                return (n + 1) * (n + 2 * m) / (2 * (n + m));
            case 1:
                return 3 * n * n / (2 * (n + m));
            case 2:
                return 5 * n * n / (4 * (n + 3 * m));
            default:
                return n / m;
        }
    }

    /** A row of readings; NONE stands where one is missing. */
    private static final class Readings {
        private final int[] phases = new int[MOST_READINGS];
        private int size = 0;

        int size() {
            return size;
        }

        boolean reaches(int i) {
            return i >= 0 && i < size;
        }

        boolean has(int i) {
            return at(i) != NONE;
        }

        int at(int i) {
            if (i < 0 || i >= size || i >= phases.length) {
                return NONE;
            }
            return phases[i];
        }

        void put(int i, int x) {
            if (i >= 0 && i < size && i < phases.length) {
                phases[i] = x;
            }
        }

        void append(int x) {
            if (size >= 0 && size < phases.length) {
                phases[size] = x;
                size++;
            }
        }

        void appendTimes(int x, int times) {
            for (int k = 0; k < times; k++) {
                append(x);
            }
        }

        void empty() {
            size = 0;
        }

        void copyFrom(Readings other) {
            empty();
            for (int i = 0; i < other.size(); i++) {
                append(other.at(i));
            }
        }

        int present() {
            int number = 0;
            for (int i = 0; i < size; i++) {
                if (has(i)) {
                    number++;
                }
            }
            return number;
        }

        int least() {
            int found = NONE;
            for (int i = 0; i < size; i++) {
                if (has(i) && (found == NONE || at(i) < found)) {
                    found = at(i);
                }
            }
            return found;
        }

        int greatest() {
            int found = NONE;
            for (int i = 0; i < size; i++) {
                // NONE is below every phase.
                found = Math.max(found, at(i));
            }
            return found;
        }

        int gaps() {
            int number = 0;
            for (int i = 0; i < size; i++) {
                if (startsGap(i)) {
                    number++;
                }
            }
            return number;
        }

        int longestGap() {
            int longest = 0;
            for (int i = 0; i < size; i++) {
                if (startsGap(i)) {
                    longest = Math.max(longest, gapEnd(i) - i);
                }
            }
            return longest;
        }

        private boolean startsGap(int i) {
            return !has(i) && (i == 0 || has(i - 1));
        }

        int gapEnd(int start) {
            int end = start;
            while (end < size && !has(end)) {
                end++;
            }
            return end;
        }

        long lineAt(int i, int j, int t) {
            if (!has(i) || !has(j) || j <= i) {
                return 0;
            }
            long rise = at(j) - at(i);
            return at(i) + Math.floorDiv(rise * (t - i), (long) (j - i));
        }

        boolean isOutlier(int i, int limit) {
            int bend = differenceAt(SECOND, 1, i - 1);
            return bend != NONE && (bend > 2 * limit || bend < -2 * limit);
        }

        int countOf(int order, int m) {
            int number = 0;
            for (int i = 0; i < size; i++) {
                if (differenceAt(order, m, i) != NONE) {
                    number++;
                }
            }
            return number;
        }

        int differenceAt(int order, int m, int i) {
            // Without this a great i would wrap around when m is added.
            if (!reaches(i)) {
                return NONE;
            }
            if (order == SECOND) {
                return secondAt(m, i);
            }
            return order == THIRD ? thirdAt(m, i) : meanAt(m, i);
        }

        private int secondAt(int m, int i) {
            int first = at(i);
            int middle = at(i + m);
            int last = at(i + 2 * m);
            if (first == NONE || middle == NONE || last == NONE) {
                return NONE;
            }
            return last - 2 * middle + first;
        }

        private int thirdAt(int m, int i) {
            int first = at(i);
            int second = at(i + m);
            int third = at(i + 2 * m);
            int last = at(i + 3 * m);
            if (first == NONE || second == NONE || third == NONE || last == NONE) {
                return NONE;
            }
            return last - 3 * third + 3 * second - first;
        }

        private int meanAt(int m, int i) {
            int sum = 0;
            for (int k = 0; k < m; k++) {
                int difference = secondAt(m, i + k);
                if (difference == NONE) {
                    return NONE;
                }
                sum += difference;
            }
            return sum;
        }
    }

    /** The latest states, in a ring, so that the oldest one makes room for a new one. */
    private static final class History {
        private final Readings[] states = new Readings[MOST_STATES];
        private int oldest = 0;
        private int depth = 0;

        History() {
            for (int i = 0; i < states.length; i++) {
                states[i] = new Readings();
            }
        }

        int depth() {
            return depth;
        }

        void record(Readings before) {
            if (depth == MOST_STATES) {
                oldest = (oldest + 1) % MOST_STATES;
                depth--;
            }
            Readings state = stateAt(depth);
            if (state != null) {
                state.copyFrom(before);
                depth++;
            }
        }

        void restore(Readings target) {
            Readings state = stateAt(depth - 1);
            if (state != null) {
                target.copyFrom(state);
                depth--;
            }
        }

        private Readings stateAt(int age) {
            int place = (oldest + age) % MOST_STATES;
            if (age < 0 || place < 0 || place >= states.length) {
                return null;
            }
            return states[place];
        }
    }

    /** Readings that are kept aside, once it is used. */
    private static final class Image {
        private final Readings readings = new Readings();
        private boolean used = false;
    }

    /** The bytes that were written. */
    private static final class Text {
        private static final int END = -1;

        private final int[] bytes = new int[MOST_BYTES];
        private int size = 0;

        int size() {
            return size;
        }

        int at(int place) {
            if (place < 0 || place >= size || place >= bytes.length) {
                return END;
            }
            return bytes[place];
        }

        void append(int code) {
            if (size >= 0 && size < bytes.length) {
                bytes[size] = code;
                size++;
            }
        }

        void empty() {
            size = 0;
        }
    }

    /** Reads readings from a text, from left to right, and knows the latest fault. */
    private static final class Loader {
        private static final int PHASE_DIGITS = 5;
        private static final int TIMES_DIGITS = 2;

        private int faultKind = NONE;
        private int faultPlace = NONE;
        private int place = 0;
        private int phase = NONE;
        private int times = 1;

        boolean readsAll(Text text, Readings target) {
            target.empty();
            place = 0;
            // An item has two bytes at the least, so the bytes bound the items.
            for (int items = 0; items < MOST_BYTES && place < text.size(); items++) {
                if (!readsItem(text, target)) {
                    return false;
                }
            }
            return true;
        }

        private boolean readsItem(Text text, Readings target) {
            int start = place;
            if (!readsPhase(text) || !readsTimes(text)) {
                return false;
            }
            if (text.at(place) != ';') {
                return refuses(WRONG_BYTE, place);
            }
            place++;
            if (target.size() + times > MOST_READINGS) {
                return refuses(TOO_MANY, start);
            }
            target.appendTimes(phase, times);
            return true;
        }

        private boolean readsPhase(Text text) {
            phase = NONE;
            if (text.at(place) == '?') {
                place++;
                return true;
            }
            boolean negative = text.at(place) == '-';
            if (negative) {
                place++;
            }
            if (!isDigit(text.at(place))) {
                return refuses(WRONG_BYTE, place);
            }
            int number = readNumber(text, PHASE_DIGITS);
            phase = negative ? -number : number;
            return true;
        }

        private boolean readsTimes(Text text) {
            times = 1;
            if (text.at(place) != '*') {
                return true;
            }
            place++;
            int first = place;
            if (!isDigit(text.at(place))) {
                return refuses(WRONG_BYTE, place);
            }
            times = readNumber(text, TIMES_DIGITS);
            if (times < 1 || times > MOST_READINGS) {
                return refuses(WRONG_NUMBER, first);
            }
            return true;
        }

        private int readNumber(Text text, int mostDigits) {
            int number = 0;
            for (int digits = 0; digits < mostDigits && isDigit(text.at(place)); digits++) {
                number = 10 * number + (text.at(place) - '0');
                place++;
            }
            return number;
        }

        private static boolean isDigit(int code) {
            return code >= '0' && code <= '9';
        }

        private boolean refuses(int kind, int where) {
            faultKind = kind;
            faultPlace = where;
            return false;
        }
    }

    /** A fraction in lowest terms; its denominator is 0 while there is none. */
    private static final class Fraction {
        // Euclid's way takes fewer than a hundred steps for numbers of 63 bits.
        private static final int MOST_STEPS = 100;

        private long numerator = 0;
        private long denominator = 0;

        boolean exists() {
            return denominator > 0;
        }

        void become(long above, long below) {
            long divisor = greatestDivisor(above, below);
            if (below <= 0 || divisor <= 0) {
                numerator = 0;
                denominator = 0;
                return;
            }
            numerator = above / divisor;
            denominator = below / divisor;
        }

        void copyFrom(Fraction other) {
            numerator = other.numerator;
            denominator = other.denominator;
        }

        /** How factor times this stands to otherFactor times the other: below 0, 0 or above 0. */
        int orderOfMultiples(long factor, Fraction other, long otherFactor) {
            if (!exists() || !other.exists()) {
                return 0;
            }
            long mine = factor * numerator;
            long others = otherFactor * other.numerator;
            int wholes = Long.compare(mine / denominator, others / other.denominator);
            if (wholes != 0) {
                return wholes;
            }
            // Cross products of the numerators themselves could pass 63 bits;
            // those of the remainders, which are below the denominators, can't.
            return Long.compare(mine % denominator * other.denominator, others % other.denominator * denominator);
        }

        long timesRoundedDown(long factor) {
            if (!exists()) {
                return 0;
            }
            // The numerator times the factor could pass 63 bits.
            return numerator / denominator * factor + numerator % denominator * factor / denominator;
        }

        private static long greatestDivisor(long a, long b) {
            long greater = a;
            long less = b;
            for (int step = 0; step < MOST_STEPS && less != 0; step++) {
                long rest = greater % less;
                greater = less;
                less = rest;
            }
            return greater;
        }
    }
}
