import java.io.IOException;
import java.nio.file.Path;
import java.util.Set;
import java.util.function.Supplier;
import java.util.function.ToLongFunction;

/** The sentences ahead of the promises that name a boundary, each with a test of its own. */
public final class DescriptionSentencesTest {
    private static final int NONE = -1000000001;
    private static final int BAD = -1000000002;
    private static final int STATE = -1000000003;
    private static final int FULL = -1000000004;
    private static final int LARGE = -1000000005;
    private static final int LEAST = Integer.MIN_VALUE;
    private static final int MOST = Integer.MAX_VALUE;

    private final Sentences s;

    private DescriptionSentencesTest(Sentences s) {
        this.s = s;
    }

    public static void main(String[] args) throws IOException {
        Sentences sentences = new Sentences(Path.of(args[0], "..", "shared", "DOC.md"));
        DescriptionSentencesTest test = new DescriptionSentencesTest(sentences);
        test.whatItIs();
        test.codes();
        test.refusals();
        test.none();
        test.readings();
        test.differences();
        test.variances();
        test.lines();
        test.kinds();
        test.freedoms();
        test.outliers();
        test.changes();
        sentences.close(Set.of("What it is", "CONVENTIONS", "READINGS", "DIFFERENCES", "VARIANCES", "LINES", "NOISE", "OUTLIERS",
            "CHANGES")::contains);
    }

    private static StabilityAnalyzer of(int... phases) {
        return Checks.of(phases);
    }

    private static StabilityAnalyzer empty() {
        return new StabilityAnalyzer();
    }

    /** So many missing readings. */
    private static StabilityAnalyzer gap(int n) {
        StabilityAnalyzer x = empty();
        x.skip(n);
        return x;
    }

    /** So many readings, all 0. */
    private static StabilityAnalyzer zeros(int n) {
        StabilityAnalyzer x = empty();
        for (int i = 0; i < n; i++) {
            x.add(0);
        }
        return x;
    }

    /** Readings at 0, 15, 30 and 60 alone: one second difference 2 at m = 15, and one at m = 30, which is last. */
    private static StabilityAnalyzer sparse(int last) {
        StabilityAnalyzer x = gap(61);
        x.set(0, 0);
        x.set(15, -1);
        x.set(30, 0);
        x.set(60, last);
        return x;
    }

    private void whatItIs() {
        s.part("What it is");
        s.says("An object is used for at most 512 calls after it has been made", () -> {
            StabilityAnalyzer x = empty();
            for (int call = 0; call < 64; call++) {
                s.due("add in call " + (call + 1), x.add(call), call);
            }
            for (int call = 64; call < 510; call++) {
                s.due("set in call " + (call + 1), x.set(63, call), call == 64 ? 63 : call - 1);
            }
            s.due("undo in call 511", x.undo(), 7);
            s.due("reading in call 512", x.reading(63), 508);
        });
        s.says("what later calls answer is free", () -> {
            StabilityAnalyzer x = empty();
            int ended = 0;
            for (int call = 0; call < 5000; call++) {
                x.add(call);
                x.undo();
                x.write(';');
                x.load();
                ended++;
            }
            s.due("calls that ended, four at a time", ended, 5000);
        });
    }

    private void codes() {
        s.part("CONVENTIONS");
        s.says("BAD (-1000000002), an argument is out of its range or names something that does not exist", () -> {
            s.due("the constant", StabilityAnalyzer.BAD, -1000000002);
            s.due("add out of range", empty().add(100000), -1000000002);
            s.due("reading that does not exist", of(1).reading(1), -1000000002);
            s.due("image that does not exist", of(1).keep(2), -1000000002);
        });
        s.says("STATE (-1000000003), the call is not possible now", () -> {
            s.due("the constant", StabilityAnalyzer.STATE, -1000000003);
            s.due("undo of nothing", empty().undo(), -1000000003);
        });
        s.says("FULL (-1000000004), a maximum would be exceeded", () -> {
            s.due("the constant", StabilityAnalyzer.FULL, -1000000004);
            s.due("add to 64", gap(64).add(0), -1000000004);
        });
        s.says("LARGE (-1000000005), a phase would be too large", () -> {
            s.due("the constant", StabilityAnalyzer.LARGE, -1000000005);
            s.due("addLine over the greatest", of(99999).addLine(0, 1), -1000000005);
        });
        s.says("If several of them apply to one call, the first one in this list is returned.", () -> {
            s.due("BAD ahead of STATE, no such reading and a missing one", of(NONE, 1).removeLine(0, 2), BAD);
            s.due("BAD ahead of STATE, j not greater and both missing", of(NONE, NONE).removeLine(1, 0), BAD);
            s.due("BAD ahead of STATE, no such image", empty().back(2), BAD);
            s.due("BAD ahead of FULL, add", gap(64).add(-100000), BAD);
            s.due("BAD ahead of FULL, skip", gap(64).skip(65), BAD);
            s.due("BAD ahead of FULL, write", written(120).write(31), BAD);
            s.due("BAD ahead of LARGE, addLine", of(99999).addLine(10000, 1), BAD);
            s.due("BAD ahead of LARGE, removeLine", of(99999, 0, 1).removeLine(2, 1), BAD);
            s.due("STATE ahead of LARGE", of(99999, 0, 1, NONE).removeLine(1, 3), STATE);
        });
    }

    private static StabilityAnalyzer written(int bytes) {
        StabilityAnalyzer x = empty();
        for (int i = 0; i < bytes; i++) {
            x.write('7');
        }
        return x;
    }

    /** Readings with a gap, a full history, a fault, two images and a text that can be loaded. */
    private static StabilityAnalyzer rich(int... phases) {
        StabilityAnalyzer x = empty();
        Checks.type(x, "5;6*0");
        x.load();
        Checks.type(x, "8;?*2;-9;");
        x.add(1);
        x.keep(0);
        x.add(4);
        x.keep(1);
        x.clear();
        for (int k = 0; k < 10; k++) {
            x.add(k);
        }
        x.clear();
        for (int phase : phases) {
            x.add(0);
            x.set(x.told(0) - 1, phase);
        }
        return x;
    }

    private void refused(String call, Supplier<StabilityAnalyzer> maker, ToLongFunction<StabilityAnalyzer> asked, long code) {
        StabilityAnalyzer x = maker.get();
        s.due(call, asked.applyAsLong(x), code);
        s.holds(call + " changes nothing", Snapshot.of(x).equals(Snapshot.of(maker.get())));
    }

    private void refusals() {
        s.says("A call that returns one of them changes nothing.", () -> {
            refusedWithBad(() -> rich(7, NONE, 9, 3));
            refusedQuestions(() -> rich(7, NONE, 9, 3));
            refusedOtherwise();
        });
    }

    private void refusedWithBad(Supplier<StabilityAnalyzer> maker) {
        refused("add", maker, x -> x.add(100000), BAD);
        refused("skip", maker, x -> x.skip(0), BAD);
        refused("set of no reading", maker, x -> x.set(4, 1), BAD);
        refused("set to no phase", maker, x -> x.set(0, -100000), BAD);
        refused("removeLine", maker, x -> x.removeLine(2, 2), BAD);
        refused("addLine, slope", maker, x -> x.addLine(10000, 1), BAD);
        refused("addLine, offset", maker, x -> x.addLine(1, 100000), BAD);
        refused("removeOutliers", maker, x -> x.removeOutliers(-1), BAD);
        refused("fill, too small", maker, x -> x.fill(0), BAD);
        refused("fill, too large", maker, x -> x.fill(65), BAD);
        refused("thin, every", maker, x -> x.thin(17, 0), BAD);
        refused("thin, first", maker, x -> x.thin(2, 2), BAD);
        refused("write", maker, x -> x.write(127), BAD);
        refused("keep", maker, x -> x.keep(2), BAD);
        refused("back", maker, x -> x.back(-1), BAD);
    }

    private void refusedQuestions(Supplier<StabilityAnalyzer> maker) {
        refused("told", maker, x -> x.told(9), BAD);
        refused("reading", maker, x -> x.reading(4), BAD);
        refused("difference", maker, x -> x.difference(5, 1, 0), BAD);
        refused("count", maker, x -> x.count(2, 32), BAD);
        refused("variance", maker, x -> x.variance(0, 1, 2), BAD);
        refused("deviation", maker, x -> x.deviation(4, 1), BAD);
        refused("compare", maker, x -> x.compare(0, 1, 32), BAD);
        refused("best", maker, x -> x.best(4), BAD);
        refused("noise", maker, x -> x.noise(16), BAD);
        refused("freedom", maker, x -> x.freedom(16), BAD);
        refused("outliers", maker, x -> x.outliers(100000), BAD);
        refused("fault", maker, x -> x.fault(2), BAD);
    }

    private void refusedOtherwise() {
        refused("undo of nothing", DescriptionSentencesTest::empty, StabilityAnalyzer::undo, STATE);
        refused("removeLine with a missing end", () -> rich(7, NONE, 9), x -> x.removeLine(0, 1), STATE);
        refused("removeDrift without differences", () -> rich(7, 7, NONE, 9), StabilityAnalyzer::removeDrift, STATE);
        refused("back to nothing", () -> of(3, 4), x -> x.back(1), STATE);
        refused("add to 64", () -> fullAndRich(), x -> x.add(5), FULL);
        refused("skip over 64", () -> rich(7, 8), x -> x.skip(63), FULL);
        refused("write over 120", () -> written(120), x -> x.write('5'), FULL);
        refused("removeLine, the last reading", () -> rich(0, 1, -99999), x -> x.removeLine(0, 1), LARGE);
        refused("removeLine, the first reading", () -> rich(99999, 0, 1), x -> x.removeLine(1, 2), LARGE);
        refused("addLine, the last reading", () -> rich(0, 0, 99999), x -> x.addLine(1, 0), LARGE);
        refused("removeDrift, the last reading", () -> rich(0, 0, -2, NONE, 99999), StabilityAnalyzer::removeDrift, LARGE);
        Supplier<StabilityAnalyzer> faulty = () -> {
            StabilityAnalyzer x = of(3, NONE, 4);
            Checks.type(x, "1;2;x");
            x.load();
            return x;
        };
        refused("load of a faulty text", faulty, StabilityAnalyzer::load, STATE);
    }

    private static StabilityAnalyzer fullAndRich() {
        StabilityAnalyzer x = rich(7, NONE);
        x.skip(62);
        return x;
    }

    private void none() {
        s.says("NONE (-1000000001) means that there is no such value", () -> {
            s.due("the constant", StabilityAnalyzer.NONE, -1000000001);
            s.due("least phase of none", empty().told(2), -1000000001);
            s.due("best of none", empty().best(0), -1000000001);
        });
        s.says("it is returned only if no error code applies.", () -> {
            s.due("set of a missing one", of(NONE).set(0, 100000), BAD);
            s.due("difference, order", empty().difference(1, 1, 0), BAD);
            s.due("difference, m", empty().difference(2, 32, 0), BAD);
            s.due("difference, i", empty().difference(2, 1, -1), BAD);
            s.due("variance, which", empty().variance(4, 1, 0), BAD);
            s.due("variance, m", empty().variance(0, 32, 0), BAD);
            s.due("variance, part", empty().variance(0, 1, 2), BAD);
            s.due("deviation, which", empty().deviation(4, 1), BAD);
            s.due("deviation, m", empty().deviation(0, 32), BAD);
            s.due("compare, which", empty().compare(4, 1, 1), BAD);
            s.due("compare, m", empty().compare(0, 32, 1), BAD);
            s.due("compare, other", empty().compare(0, 1, 32), BAD);
            s.due("best", empty().best(4), BAD);
            s.due("noise", empty().noise(16), BAD);
            s.due("freedom", empty().freedom(16), BAD);
            s.due("fault", empty().fault(2), BAD);
        });
    }

    private void readings() {
        s.part("READINGS");
        s.says("There are N readings, 0 to N - 1, with N from 0 to 64 (0 at first).", () -> {
            StabilityAnalyzer x = empty();
            s.due("N at first", x.told(0), 0);
            s.due("reading 0 of none", x.reading(0), BAD);
            for (int n = 1; n <= 64; n++) {
                x.add(n);
                s.due("N", x.told(0), n);
                s.due("reading N - 1", x.reading(n - 1), n);
                s.due("reading N", x.reading(n), BAD);
            }
            s.due("a 65th by add", x.add(0), FULL);
            s.due("a 65th by skip", x.skip(1), FULL);
            s.due("N at last", x.told(0), 64);
        });
        s.says("It is missing, or it is a phase x(i) from -99999 to 99999.", () -> {
            StabilityAnalyzer x = of(-99999, 99999, NONE);
            s.readings("bounds", x, -99999, 99999, NONE);
            s.each("add", x::add, BAD, -100000, 100000);
            s.each("set", phase -> x.set(0, phase), BAD, -100000, 100000);
            s.due("addLine under the least", x.addLine(0, -1), LARGE);
            s.due("addLine over the greatest", x.addLine(0, 1), LARGE);
        });
    }

    private void differences() {
        s.part("DIFFERENCES");
        s.says("For an m of at least 1", () -> {
            StabilityAnalyzer x = zeros(64);
            x.set(0, 1);
            s.due("second, m = 1", x.difference(2, 1, 0), 1);
            s.due("third, m = 1", x.difference(3, 1, 0), -1);
            s.due("mean, m = 1", x.difference(4, 1, 0), 1);
            s.due("second, m = 31", x.difference(2, 31, 0), 1);
            s.due("third, m = 21", x.difference(3, 21, 0), -1);
            s.due("third, m = 22, beyond the end", x.difference(3, 22, 0), NONE);
            s.due("mean, m = 21", x.difference(4, 21, 0), 1);
            s.due("mean, m = 22, beyond the end", x.difference(4, 22, 0), NONE);
            s.each("m below 1", m -> x.difference(2, m, 0), BAD, 0, -1, LEAST);
        });
        s.says("they exist for each i from 0 on for which these three or four readings exist and none of them is missing", () -> {
            for (int m = 1; m <= 31; m++) {
                existsOnlyWithAll(2, m, 2 * m, m);
                if (3 * m < 64) {
                    existsOnlyWithAll(3, m, 3 * m, m);
                }
            }
            StabilityAnalyzer x = zeros(64);
            for (int order = 2; order <= 4; order++) {
                int asked = order;
                s.each("beyond all readings, order " + order, i -> x.difference(asked, 31, i), NONE, 64, 65, MOST - 93, MOST - 62,
                    MOST - 31, MOST - 1, MOST);
            }
        });
        s.says("For a window m, the mean difference at i is the sum of the second differences (for m) at i, i + 1, ..., i + m - 1", () -> {
            StabilityAnalyzer x = of(1, 10, 100, 1000, 10000, 7, 70, 700, 7000);
            s.due("m = 1", x.difference(4, 1, 1), 1000 - 200 + 10);
            s.due("m = 2", x.difference(4, 2, 1), (7 - 2000 + 10) + (70 - 20000 + 100));
            s.due("m = 3", x.difference(4, 3, 0), (70 - 2000 + 1) + (700 - 20000 + 10) + (7000 - 14 + 100));
        });
        s.says("it exists if all of these exist", () -> {
            for (int m = 1; m <= 21; m++) {
                existsOnlyWithAll(4, m, 3 * m - 1, 1);
            }
        });
    }

    /** The readings that matter are 0, step, 2 * step, .. last; i = 1 then needs one reading more. */
    private void existsOnlyWithAll(int order, int m, int last, int step) {
        StabilityAnalyzer x = zeros(last + 1);
        String call = "order " + order + ", m " + m;
        s.due(call + " up to the last reading", x.difference(order, m, 0), 0);
        s.due(call + " beyond the last reading", x.difference(order, m, 1), NONE);
        s.due(call + ", how many", x.count(order, m), 1);
        for (int missing = 0; missing <= last; missing++) {
            x.set(missing, NONE);
            s.due(call + " with reading " + missing + " missing", x.difference(order, m, 0), missing % step == 0 ? NONE : 0);
            x.set(missing, 0);
        }
        StabilityAnalyzer y = zeros(last);
        s.due(call + " with a reading too few", y.difference(order, m, 0), NONE);
        s.due(call + " with a reading too few, how many", y.count(order, m), 0);
    }

    private void varianceIs(StabilityAnalyzer x, int which, int m, long numerator, long denominator) {
        s.due("variance(" + which + ", " + m + ", 0)", x.variance(which, m, 0), numerator);
        s.due("variance(" + which + ", " + m + ", 1)", x.variance(which, m, 1), denominator);
    }

    /** So many readings, m at the greatest phase, m at the least, and so on: the greatest differences there are. */
    private static StabilityAnalyzer swings(int n, int m) {
        StabilityAnalyzer x = empty();
        for (int i = 0; i < n; i++) {
            x.add(i / m % 2 == 0 ? 99999 : -99999);
        }
        return x;
    }

    private void variances() {
        s.part("VARIANCES");
        s.says("in lowest terms (0 is 0/1)", () -> {
            for (int which = 0; which <= 3; which++) {
                varianceIs(zeros(64), which, 1, 0, 1);
                varianceIs(zeros(64), which, 21, 0, 1);
            }
            varianceIs(of(6, 0, 0), 0, 1, 18, 1);
            varianceIs(of(2, 0, 0, 0, 0), 0, 1, 2, 3);
            varianceIs(of(3, 0, 0, 0), 1, 1, 3, 2);
        });
        s.says("For an m from 1 on, with n differences of the named kind that exist: the variance 0 (Allan)", () -> {
            varianceIs(of(1, 0, 0), 0, 1, 1, 2);
            StabilityAnalyzer x = zeros(63);
            x.set(0, 1);
            varianceIs(x, 0, 31, 1, 2 * 31 * 31);
            x.add(0);
            varianceIs(x, 0, 31, 1, 2 * 31 * 31 * 2);
            varianceIs(x, 0, 1, 1, 2 * 62);
            varianceIs(swings(64, 1), 0, 1, 79998400008L, 1);
        });
        s.says("the variance 1 (Hadamard) is the sum of the squares of the third differences, divided by 6 * m * m * n", () -> {
            varianceIs(of(1, 0, 0, 0), 1, 1, 1, 6);
            StabilityAnalyzer x = zeros(64);
            x.set(0, 1);
            varianceIs(x, 1, 21, 1, 6 * 21 * 21);
            varianceIs(x, 1, 1, 1, 6 * 61);
            varianceIs(swings(64, 1), 1, 1, 106664533344L, 1);
        });
        s.says("the variance 2 (modified Allan)", () -> {
            varianceIs(of(1, 0, 0), 2, 1, 1, 2);
            StabilityAnalyzer x = zeros(63);
            x.set(0, 1);
            varianceIs(x, 2, 21, 1, 2 * 21 * 21 * 21 * 21);
            varianceIs(x, 2, 2, 1, 2 * 16 * 58);
            varianceIs(swings(63, 21), 2, 21, 8888711112L, 49);
        });
        s.says("the variance 3 (time) is the variance 2, times m * m, divided by 3.", () -> {
            varianceIs(of(1, 0, 0), 3, 1, 1, 6);
            StabilityAnalyzer x = zeros(63);
            x.set(0, 1);
            varianceIs(x, 3, 21, 1, 6 * 21 * 21);
            varianceIs(swings(63, 21), 3, 21, 26666133336L, 1);
        });
        s.says("There is no variance if no difference exists.", () -> {
            for (int m = 1; m <= 31; m++) {
                noVariance(zeros(2 * m), 0, m);
                noVariance(zeros(Math.min(64, 3 * m)), 1, m);
                noVariance(zeros(Math.min(64, 3 * m - 1)), 2, m);
                noVariance(zeros(Math.min(64, 3 * m - 1)), 3, m);
            }
            noVariance(gap(64), 0, 1);
        });
    }

    /** At m = 22 and above 64 readings are too few for third and mean differences. */
    private void noVariance(StabilityAnalyzer x, int which, int m) {
        varianceIs(x, which, m, NONE, NONE);
        s.due("deviation(" + which + ", " + m + ")", x.deviation(which, m), NONE);
        s.due("compare(" + which + ", " + m + ", " + m + ")", x.compare(which, m, m), NONE);
    }

    private void lines() {
        s.part("LINES");
        s.says("The line through two readings i < j that are not missing", () -> {
            StabilityAnalyzer x = of(0, 0, 0, 1, 0);
            x.removeLine(1, 3);
            s.readings("1 / 2 a step: -1 / 2 is -1, 1 / 2 is 0, 3 / 2 is 1", x, 1, 0, 0, 0, -1);
            x = of(0, 0, 0, -1, 0);
            x.removeLine(1, 3);
            s.readings("-1 / 2 a step: 1 / 2 is 0, -1 / 2 is -1, -3 / 2 is -2", x, 0, 0, 1, 0, 2);
            x = of(0, 0, 0, -4, 0);
            x.removeLine(1, 3);
            s.readings("-4 / 2 a step is whole", x, -2, 0, 2, 0, 6);
            x = of(5, NONE, NONE, 3);
            x.fill(2);
            s.readings("-2 / 3 and -4 / 3 are -1 and -2", x, 5, 4, 3, 3);
        });
        s.says("The drift of the readings is the sum of all second differences for m = 1, divided by their number, rounded towards minus", () -> {
            s.due("-1 / 2", of(0, 0, 0, -1).removeDrift(), -1);
            s.due("1 / 2", of(0, 0, 0, 1).removeDrift(), 0);
            s.due("-1 / 3", of(0, 0, 0, 0, -1).removeDrift(), -1);
            s.due("-3 / 2", of(0, 0, 0, -3).removeDrift(), -2);
            s.due("3 / 2", of(0, 0, 0, 3).removeDrift(), 1);
            s.due("-4 / 2 is whole", of(0, 0, 0, -4).removeDrift(), -2);
            s.due("0 / 2", of(7, 7, 7, 7).removeDrift(), 0);
        });
    }

    private void kinds() {
        s.part("NOISE");
        s.says("0 (white phase) if 8 * B is at most 3 * A", () -> {
            s.due("equal", of(0, 0, -7, -13, -19).noise(1), 0);
            s.due("little above", of(0, 0, -6, -10, -17).noise(1), 1);
            s.due("B is 0", of(0, 1, 0, 1, 0).noise(1), 0);
        });
        s.says("otherwise 1 (white frequency) if 4 * B is at most 3 * A", () -> {
            s.due("equal", of(0, 0, -7, -14, -21).noise(1), 1);
            s.due("little above", of(0, 0, -9, -10, -4).noise(1), 2);
        });
        s.says("otherwise 2 (flicker) if 2 * B is at most 3 * A", () -> {
            s.due("equal", of(0, 0, -5, -14, -20).noise(1), 2);
            s.due("little above", of(0, 0, -4, 1, 6).noise(1), 3);
        });
        s.says("otherwise 3 (random walk) if B is at most 3 * A", () -> {
            s.due("equal", of(0, 0, -6, -15, -26).noise(1), 3);
            s.due("little above", of(0, 0, -4, -13, -21).noise(1), 4);
        });
        s.says("otherwise 4 (drift)", () -> s.due("far above", of(0, 1, 4, 9, 16).noise(1), 4));
        s.says("There is no kind if one of both variances does not exist, or A is 0.", () -> {
            s.due("no B", of(0, 0, 1, 0).noise(1), NONE);
            s.due("no A", of(0, NONE, 1, NONE, 4).noise(1), NONE);
            s.due("neither", of(0, 0).noise(1), NONE);
            s.due("A is 0, B is 0", of(0, 1, 2, 3, 4).noise(1), NONE);
            s.due("A is 0, B is not", of(0, 0, 0, NONE, 5).noise(1), NONE);
            s.due("no B at the greatest m", zeros(60).noise(15), NONE);
        });
    }

    private void freedoms() {
        s.says("rounded down: for the kind 0 (n + 1) * (n + 2 * m) / (2 * (n + m))", () -> {
            s.due("20 / 8", of(0, 0, -7, -13, -19).freedom(1), 2);
            s.due("4032 / 126", swings(64, 1).freedom(1), 32);
            s.due("noise of the sparse one", sparse(2).noise(15), 0);
            s.due("62 / 32", sparse(2).freedom(15), 1);
        });
        s.says("for the kind 1 3 * n * n / (2 * (n + m))", () -> {
            s.due("27 / 8", of(0, 0, -7, -14, -21).freedom(1), 3);
            StabilityAnalyzer step = zeros(32);
            for (int i = 32; i < 64; i++) {
                step.add(1);
            }
            s.due("noise of a step", step.noise(1), 1);
            s.due("11532 / 126", step.freedom(1), 91);
        });
        s.says("for the kind 2 5 * n * n / (4 * (n + 3 * m))", () -> {
            s.due("45 / 24", of(0, 0, -5, -14, -20).freedom(1), 1);
            StabilityAnalyzer hills = empty();
            for (int i = 0; i < 64; i++) {
                hills.add(Math.abs(i % 16 - 8));
            }
            s.due("noise of hills", hills.noise(4), 2);
            s.due("15680 / 272", hills.freedom(4), 57);
        });
        s.says("for the kinds 3 and 4 n / m", () -> {
            s.due("kind 3, 3 / 1", of(0, 0, -6, -15, -26).freedom(1), 3);
            StabilityAnalyzer squares = empty();
            for (int i = 0; i < 64; i++) {
                squares.add(i * i);
            }
            s.due("kind 4, 62 / 1", squares.freedom(1), 62);
            s.due("kind 4, 58 / 3", squares.freedom(3), 19);
            s.due("kind 4, 34 / 15", squares.freedom(15), 2);
        });
        s.says("but at least 1", () -> {
            int[] last = {2, 3, 4, 6, 7};
            for (int kind = 0; kind < last.length; kind++) {
                s.due("noise of one difference, kind " + kind, sparse(last[kind]).noise(15), kind);
                s.due("freedom of one difference, kind " + kind, sparse(last[kind]).freedom(15), 1);
            }
        });
    }

    private void outliers() {
        s.part("OUTLIERS");
        s.says("An outlier, for a limit, is a reading i that is not missing", () -> {
            s.due("twice the limit", of(0, 10, 0).outliers(10), 0);
            s.due("one above twice the limit", of(0, 10, -1).outliers(10), 1);
            s.due("minus twice the limit", of(0, -10, 0).outliers(10), 0);
            s.due("one below minus twice the limit", of(0, -10, 1).outliers(10), 1);
            s.due("0 at the limit 0", of(1, 2, 3).outliers(0), 0);
            s.due("1 at the limit 0", of(1, 2, 2).outliers(0), 1);
            s.due("-1 at the limit 0", of(1, 2, 4).outliers(0), 1);
            s.due("twice the greatest limit", of(0, 99999, 0).outliers(99999), 0);
            s.due("one above twice the greatest limit", of(0, 99999, -1).outliers(99999), 1);
            s.due("one below minus twice the greatest limit", of(0, -99999, 1).outliers(99999), 1);
            s.due("missing itself", of(0, NONE, 50).outliers(0), 0);
            s.due("the reading before is missing", of(NONE, 50, 0).outliers(0), 0);
            s.due("the reading behind is missing", of(0, 50, NONE).outliers(0), 0);
            s.due("the first and the last one", of(50, 0).outliers(0), 0);
            s.due("one alone", of(50).outliers(0), 0);
            s.due("none at all", empty().outliers(0), 0);
        });
    }

    private void changes() {
        s.part("CHANGES");
        s.says("Some methods are called changes below (also if they change nothing).", () -> {
            StabilityAnalyzer x = of(5);
            ToLongFunction<StabilityAnalyzer> same = y -> y.set(0, 5);
            s.due("set to the same", same.applyAsLong(x), 5);
            s.due("changes then", x.told(8), 2);
            s.due("undo of it", x.undo(), 1);
            s.readings("after the undo", x, 5);
        });
        s.says("A history of at most 8 states is kept: a change that returns no error code records the readings before it", () -> {
            StabilityAnalyzer x = empty();
            for (int k = 1; k <= 20; k++) {
                x.add(k);
                s.due("changes after " + k, x.told(8), Math.min(k, 8));
                x.add(100000);
                s.due("changes after a refused one", x.told(8), Math.min(k, 8));
            }
        });
        s.says("if there are more than 8, the oldest one is dropped", () -> {
            for (int made = 7; made <= 25; made++) {
                StabilityAnalyzer x = empty();
                for (int k = 0; k < made; k++) {
                    x.add(k);
                }
                for (int left = Math.min(8, made) - 1; left >= 0; left--) {
                    s.due("undo after " + made, x.undo(), left);
                }
                s.due("undo of a dropped one after " + made, x.undo(), STATE);
                s.due("N then after " + made, x.told(0), Math.max(0, made - 8));
            }
        });
        s.says("undo() removes the latest state and restores it", () -> {
            StabilityAnalyzer x = of(1, 2, 3);
            x.clear();
            x.undo();
            s.readings("clear undone", x, 1, 2, 3);
            x.undo();
            s.readings("add undone", x, 1, 2);
            x.add(9);
            x.undo();
            s.readings("another add undone", x, 1, 2);
            s.due("changes left", x.told(8), 2);
        });
        s.says("The text, the latest fault and the images do not belong to a state.", () -> {
            StabilityAnalyzer x = of(1, 2);
            Checks.type(x, "5;x");
            x.load();
            x.keep(1);
            x.undo();
            s.due("text", x.told(7), 3);
            s.due("kind of the fault", x.fault(0), 1);
            s.due("place of the fault", x.fault(1), 2);
            s.due("image", x.back(1), 2);
        });
        s.says("The error codes, and the value for \"there is none\".", () -> {
            int[] codes = {StabilityAnalyzer.NONE, StabilityAnalyzer.BAD, StabilityAnalyzer.STATE, StabilityAnalyzer.FULL,
                StabilityAnalyzer.LARGE};
            for (int k = 0; k < codes.length; k++) {
                s.due("code " + k, codes[k], -1000000001 - k);
            }
        });
    }
}
