import java.math.BigInteger;
import java.util.ArrayDeque;
import java.util.ArrayList;
import java.util.Arrays;
import java.util.List;
import java.util.regex.Matcher;
import java.util.regex.Pattern;

/** The document once more, in lists, regular expressions and numbers without bounds, to compare with. */
final class Reference {
    private static final int NONE = -1000000001;
    private static final int BAD = -1000000002;
    private static final int STATE = -1000000003;
    private static final int FULL = -1000000004;
    private static final int LARGE = -1000000005;

    private static final Pattern ITEM = Pattern.compile("(\\?|-?[0-9]{1,5})(\\*([0-9]{1,2}))?;");

    /** A missing reading is null. */
    private List<Integer> row = new ArrayList<>();
    private final ArrayDeque<List<Integer>> past = new ArrayDeque<>();
    private final List<List<Integer>> images = new ArrayList<>(Arrays.asList(null, null));
    private final StringBuilder text = new StringBuilder();
    private int faultKind = NONE;
    private int faultPlace = NONE;

    private void change(List<Integer> next) {
        past.addLast(row);
        if (past.size() > 8) {
            past.removeFirst();
        }
        row = next;
    }

    private static boolean outside(long x, long least, long greatest) {
        return x < least || x > greatest;
    }

    private Integer get(long i) {
        return outside(i, 0, row.size() - 1) ? null : row.get((int) i);
    }

    private static int orNone(Integer x) {
        return x == null ? NONE : x;
    }

    int add(int x) {
        if (outside(x, -99999, 99999)) {
            return BAD;
        }
        if (row.size() == 64) {
            return FULL;
        }
        List<Integer> next = new ArrayList<>(row);
        next.add(x);
        change(next);
        return next.size() - 1;
    }

    int skip(int n) {
        if (outside(n, 1, 64)) {
            return BAD;
        }
        if (row.size() + n > 64) {
            return FULL;
        }
        List<Integer> next = new ArrayList<>(row);
        for (int k = 0; k < n; k++) {
            next.add(null);
        }
        change(next);
        return next.size();
    }

    int set(int i, int x) {
        if (outside(i, 0, row.size() - 1) || x != NONE && outside(x, -99999, 99999)) {
            return BAD;
        }
        List<Integer> next = new ArrayList<>(row);
        Integer previous = next.set(i, x == NONE ? null : (Integer) x);
        change(next);
        return orNone(previous);
    }

    int clear() {
        int n = row.size();
        change(new ArrayList<>());
        return n;
    }

    private static BigInteger floorOf(BigInteger a, BigInteger b) {
        BigInteger[] parts = a.divideAndRemainder(b);
        return parts[1].signum() != 0 && parts[1].signum() != b.signum() ? parts[0].subtract(BigInteger.ONE) : parts[0];
    }

    private BigInteger line(int i, int j, int t) {
        BigInteger rise = BigInteger.valueOf(row.get(j) - row.get(i)).multiply(BigInteger.valueOf(t - i));
        return BigInteger.valueOf(row.get(i)).add(floorOf(rise, BigInteger.valueOf(j - i)));
    }

    /** Subtracts; answers how many phases differ then, or LARGE. */
    private int subtract(List<BigInteger> amounts) {
        List<Integer> next = new ArrayList<>();
        int different = 0;
        for (int t = 0; t < row.size(); t++) {
            if (row.get(t) == null) {
                next.add(null);
                continue;
            }
            long x = BigInteger.valueOf(row.get(t)).subtract(amounts.get(t)).longValueExact();
            if (outside(x, -99999, 99999)) {
                return LARGE;
            }
            if (x != row.get(t)) {
                different++;
            }
            next.add((int) x);
        }
        change(next);
        return different;
    }

    int removeLine(int i, int j) {
        if (outside(i, 0, row.size() - 1) || outside(j, 0, row.size() - 1) || j <= i) {
            return BAD;
        }
        if (row.get(i) == null || row.get(j) == null) {
            return STATE;
        }
        List<BigInteger> amounts = new ArrayList<>();
        for (int t = 0; t < row.size(); t++) {
            amounts.add(line(i, j, t));
        }
        return subtract(amounts);
    }

    int addLine(int slope, int offset) {
        if (outside(slope, -9999, 9999) || outside(offset, -99999, 99999)) {
            return BAD;
        }
        List<BigInteger> amounts = new ArrayList<>();
        for (int t = 0; t < row.size(); t++) {
            amounts.add(BigInteger.valueOf(-(long) slope * t - offset));
        }
        return subtract(amounts);
    }

    int removeDrift() {
        List<BigInteger> bends = differences(2, 1);
        if (bends.isEmpty()) {
            return STATE;
        }
        BigInteger sum = BigInteger.ZERO;
        for (BigInteger bend : bends) {
            sum = sum.add(bend);
        }
        BigInteger drift = floorOf(sum, BigInteger.valueOf(bends.size()));
        List<BigInteger> amounts = new ArrayList<>();
        for (long t = 0; t < row.size(); t++) {
            amounts.add(drift.multiply(BigInteger.valueOf(t * (t - 1) / 2)));
        }
        return subtract(amounts) == LARGE ? LARGE : drift.intValueExact();
    }

    private List<Integer> outlierNumbers(int limit) {
        List<Integer> found = new ArrayList<>();
        for (int i = 0; i < row.size(); i++) {
            if (get(i - 1) != null && get(i) != null && get(i + 1) != null) {
                long bend = 2L * get(i) - get(i - 1) - get(i + 1);
                if (bend > 2L * limit || bend < -2L * limit) {
                    found.add(i);
                }
            }
        }
        return found;
    }

    int removeOutliers(int limit) {
        if (outside(limit, 0, 99999)) {
            return BAD;
        }
        List<Integer> found = outlierNumbers(limit);
        List<Integer> next = new ArrayList<>(row);
        for (int i : found) {
            next.set(i, null);
        }
        change(next);
        return found.size();
    }

    /** Start and end (behind it) of each row of missing readings. */
    private List<int[]> gapList() {
        List<int[]> found = new ArrayList<>();
        for (int i = 0; i < row.size(); i++) {
            if (row.get(i) != null) {
                continue;
            }
            if (!found.isEmpty() && found.get(found.size() - 1)[1] == i) {
                found.get(found.size() - 1)[1] = i + 1;
            } else {
                found.add(new int[] {i, i + 1});
            }
        }
        return found;
    }

    int fill(int longest) {
        if (outside(longest, 1, 64)) {
            return BAD;
        }
        List<Integer> next = new ArrayList<>(row);
        int filled = 0;
        for (int[] gap : gapList()) {
            if (gap[0] == 0 || gap[1] == row.size() || gap[1] - gap[0] > longest) {
                continue;
            }
            for (int t = gap[0]; t < gap[1]; t++) {
                next.set(t, line(gap[0] - 1, gap[1], t).intValueExact());
                filled++;
            }
        }
        change(next);
        return filled;
    }

    int thin(int every, int first) {
        if (outside(every, 1, 16) || outside(first, 0, every - 1)) {
            return BAD;
        }
        List<Integer> next = new ArrayList<>();
        for (int i = 0; i < row.size(); i++) {
            if (i % every == first) {
                next.add(row.get(i));
            }
        }
        change(next);
        return next.size();
    }

    int undo() {
        if (past.isEmpty()) {
            return STATE;
        }
        row = past.removeLast();
        return past.size();
    }

    int told(int what) {
        List<Integer> present = new ArrayList<>(row);
        present.removeIf(x -> x == null);
        List<int[]> gaps = gapList();
        int longest = gaps.stream().mapToInt(gap -> gap[1] - gap[0]).max().orElse(0);
        int greatest = 0;
        for (int m = 1; m <= 64; m++) {
            greatest = differences(2, m).isEmpty() ? greatest : m;
        }
        int[] all = {row.size(), present.size(), present.stream().mapToInt(x -> x).min().orElse(NONE),
            present.stream().mapToInt(x -> x).max().orElse(NONE), gaps.size(), longest, greatest, text.length(), past.size()};
        return outside(what, 0, 8) ? BAD : all[what];
    }

    int reading(int i) {
        return outside(i, 0, row.size() - 1) ? BAD : orNone(row.get(i));
    }

    private static BigInteger weigh(int[] weights, List<Integer> values) {
        BigInteger sum = BigInteger.ZERO;
        for (int k = 0; k < weights.length; k++) {
            if (values.get(k) == null) {
                return null;
            }
            sum = sum.add(BigInteger.valueOf((long) weights[k] * values.get(k)));
        }
        return sum;
    }

    private BigInteger differenceOrNull(int order, int m, long i) {
        if (order == 2) {
            return weigh(new int[] {1, -2, 1}, Arrays.asList(get(i), get(i + m), get(i + 2L * m)));
        }
        if (order == 3) {
            return weigh(new int[] {-1, 3, -3, 1}, Arrays.asList(get(i), get(i + m), get(i + 2L * m), get(i + 3L * m)));
        }
        BigInteger sum = BigInteger.ZERO;
        for (int k = 0; k < m; k++) {
            BigInteger bend = differenceOrNull(2, m, i + k);
            if (bend == null) {
                return null;
            }
            sum = sum.add(bend);
        }
        return sum;
    }

    private List<BigInteger> differences(int order, int m) {
        List<BigInteger> found = new ArrayList<>();
        for (int i = 0; i < row.size(); i++) {
            BigInteger difference = differenceOrNull(order, m, i);
            if (difference != null) {
                found.add(difference);
            }
        }
        return found;
    }

    int difference(int order, int m, int i) {
        if (outside(order, 2, 4) || outside(m, 1, 31) || i < 0) {
            return BAD;
        }
        BigInteger difference = differenceOrNull(order, m, i);
        return difference == null ? NONE : difference.intValueExact();
    }

    int count(int order, int m) {
        return outside(order, 2, 4) || outside(m, 1, 31) ? BAD : differences(order, m).size();
    }

    /** Numerator and denominator, or null. */
    private BigInteger[] fraction(int which, int m) {
        BigInteger big = BigInteger.valueOf(m);
        List<BigInteger> found = differences(which == 0 ? 2 : which == 1 ? 3 : 4, m);
        if (found.isEmpty()) {
            return null;
        }
        BigInteger above = BigInteger.ZERO;
        for (BigInteger difference : found) {
            above = above.add(difference.pow(2));
        }
        BigInteger below = big.pow(which < 2 ? 2 : 4).multiply(BigInteger.valueOf((which == 1 ? 6L : 2L) * found.size()));
        if (which == 3) {
            above = above.multiply(big.pow(2));
            below = below.multiply(BigInteger.valueOf(3));
        }
        BigInteger divisor = above.gcd(below);
        return new BigInteger[] {above.divide(divisor), below.divide(divisor)};
    }

    long variance(int which, int m, int part) {
        if (outside(which, 0, 3) || outside(m, 1, 31) || outside(part, 0, 1)) {
            return BAD;
        }
        BigInteger[] value = fraction(which, m);
        return value == null ? NONE : value[part].longValueExact();
    }

    long deviation(int which, int m) {
        if (outside(which, 0, 3) || outside(m, 1, 31)) {
            return BAD;
        }
        BigInteger[] value = fraction(which, m);
        return value == null ? NONE : value[0].multiply(BigInteger.valueOf(1000000)).divide(value[1]).sqrt().longValueExact();
    }

    private static int order(long factor, BigInteger[] a, long otherFactor, BigInteger[] b) {
        return a[0].multiply(b[1]).multiply(BigInteger.valueOf(factor))
            .compareTo(b[0].multiply(a[1]).multiply(BigInteger.valueOf(otherFactor)));
    }

    int compare(int which, int m, int other) {
        if (outside(which, 0, 3) || outside(m, 1, 31) || outside(other, 1, 31)) {
            return BAD;
        }
        BigInteger[] a = fraction(which, m);
        BigInteger[] b = fraction(which, other);
        if (a == null || b == null) {
            return NONE;
        }
        int order = order(1, a, 1, b);
        return order == 0 ? 0 : order < 0 ? 1 : 2;
    }

    int best(int which) {
        if (outside(which, 0, 3)) {
            return BAD;
        }
        int found = NONE;
        for (int m = 31; m >= 1; m--) {
            if (fraction(which, m) != null && (found == NONE || order(1, fraction(which, m), 1, fraction(which, found)) <= 0)) {
                found = m;
            }
        }
        return found;
    }

    int noise(int m) {
        if (outside(m, 1, 15)) {
            return BAD;
        }
        BigInteger[] a = fraction(0, m);
        BigInteger[] b = fraction(0, 2 * m);
        if (a == null || b == null || a[0].signum() == 0) {
            return NONE;
        }
        return order(8, b, 3, a) <= 0 ? 0 : order(4, b, 3, a) <= 0 ? 1 : order(2, b, 3, a) <= 0 ? 2 : order(1, b, 3, a) <= 0 ? 3 : 4;
    }

    int freedom(int m) {
        int kind = noise(m);
        if (kind < 0) {
            return kind;
        }
        int n = differences(2, m).size();
        int free = kind == 0 ? (n + 1) * (n + 2 * m) / (2 * (n + m))
            : kind == 1 ? 3 * n * n / (2 * (n + m))
            : kind == 2 ? 5 * n * n / (4 * (n + 3 * m))
            : n / m;
        return free < 1 ? 1 : free;
    }

    int outliers(int limit) {
        return outside(limit, 0, 99999) ? BAD : outlierNumbers(limit).size();
    }

    int write(int code) {
        if (outside(code, 32, 126)) {
            return BAD;
        }
        if (text.length() == 120) {
            return FULL;
        }
        text.append((char) code);
        return text.length();
    }

    int wipe() {
        int n = text.length();
        text.setLength(0);
        return n;
    }

    int load() {
        List<Integer> next = new ArrayList<>();
        Matcher matcher = ITEM.matcher(text);
        int place = 0;
        while (place < text.length()) {
            boolean whole = matcher.region(place, text.length()).lookingAt();
            int times = whole && matcher.group(3) != null ? Integer.parseInt(matcher.group(3)) : 1;
            if (!whole || times < 1 || times > 64) {
                return findFault(text.substring(place), place);
            }
            if (next.size() + times > 64) {
                return fail(3, place);
            }
            for (int k = 0; k < times; k++) {
                next.add(matcher.group(1).equals("?") ? null : (Integer) Integer.parseInt(matcher.group(1)));
            }
            place = matcher.end();
        }
        change(next);
        return next.size();
    }

    private int fail(int kind, int place) {
        faultKind = kind;
        faultPlace = place;
        return STATE;
    }

    /** The longest beginning of an item tells where the fault is; a wrong number comes ahead of what stands behind it. */
    private int findFault(String rest, int place) {
        Matcher number = Pattern.compile("(?:\\?|-?[0-9]{1,5})\\*([0-9]{1,2})").matcher(rest);
        if (number.lookingAt() && outside(Integer.parseInt(number.group(1)), 1, 64)) {
            return fail(2, place + number.start(1));
        }
        Pattern beginning = Pattern.compile("(?:|-|(?:\\?|-?[0-9]{1,5})(?:|\\*|\\*[0-9]{1,2}))");
        int length = rest.length();
        while (!beginning.matcher(rest.substring(0, length)).matches()) {
            length--;
        }
        return fail(1, place + length);
    }

    int fault(int what) {
        return outside(what, 0, 1) ? BAD : what == 0 ? faultKind : faultPlace;
    }

    int keep(int i) {
        if (outside(i, 0, 1)) {
            return BAD;
        }
        images.set(i, row);
        return row.size();
    }

    int back(int i) {
        if (outside(i, 0, 1)) {
            return BAD;
        }
        if (images.get(i) == null) {
            return STATE;
        }
        change(images.get(i));
        return row.size();
    }
}
