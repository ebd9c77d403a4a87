import java.io.IOException;
import java.nio.file.Path;
import java.util.HashSet;
import java.util.Set;

/** The sentences of promises 13 to 29 (what is told, the text, the images) that name a boundary, each with a test of its own. */
public final class AskedSentencesTest {
    private static final int NONE = -1000000001;
    private static final int BAD = -1000000002;
    private static final int STATE = -1000000003;
    private static final int FULL = -1000000004;
    private static final int LEAST = Integer.MIN_VALUE;
    private static final int MOST = Integer.MAX_VALUE;

    private final Sentences s;

    private AskedSentencesTest(Sentences s) {
        this.s = s;
    }

    public static void main(String[] args) throws IOException {
        Sentences sentences = new Sentences(Path.of(args[0], "..", "shared", "DOC.md"));
        AskedSentencesTest test = new AskedSentencesTest(sentences);
        test.told();
        test.reading();
        test.difference();
        test.count();
        test.variance();
        test.deviation();
        test.compare();
        test.best();
        test.noise();
        test.freedom();
        test.outliers();
        test.write();
        test.wipe();
        test.load();
        test.items();
        test.faultKinds();
        test.fault();
        test.keep();
        test.back();
        Set<String> asked = new HashSet<>();
        for (int promise = 13; promise <= 29; promise++) {
            asked.add("Promise " + promise);
        }
        sentences.close(asked::contains);
    }

    private static StabilityAnalyzer of(int... phases) {
        return Checks.of(phases);
    }

    private static StabilityAnalyzer empty() {
        return new StabilityAnalyzer();
    }

    private static StabilityAnalyzer gap(int n) {
        StabilityAnalyzer x = empty();
        x.skip(n);
        return x;
    }

    private static StabilityAnalyzer zeros(int n) {
        StabilityAnalyzer x = empty();
        for (int i = 0; i < n; i++) {
            x.add(0);
        }
        return x;
    }

    /** 1 and then zeros: at each m there are as many differences as can be, and one of them is 1. */
    private static StabilityAnalyzer impulse(int n) {
        StabilityAnalyzer x = zeros(n);
        x.set(0, 1);
        return x;
    }

    private static StabilityAnalyzer typed(String text) {
        StabilityAnalyzer x = empty();
        Checks.type(x, text);
        return x;
    }

    private void told() {
        s.part("Promise 13");
        s.says("`what`: 0 N", () -> {
            s.due("none", empty().told(0), 0);
            s.due("64", gap(64).told(0), 64);
        });
        s.says("1 readings that are not missing", () -> {
            s.due("none", empty().told(1), 0);
            s.due("all are missing", gap(64).told(1), 0);
            s.due("none is missing", zeros(64).told(1), 64);
            s.due("first and last are missing", of(NONE, 5, NONE).told(1), 1);
        });
        s.says("2 the least phase, 3 the greatest one (NONE if all are missing)", () -> {
            s.due("least of none", empty().told(2), NONE);
            s.due("greatest of none", empty().told(3), NONE);
            s.due("least, all are missing", gap(64).told(2), NONE);
            s.due("greatest, all are missing", gap(64).told(3), NONE);
            s.due("least of one", of(NONE, 0).told(2), 0);
            s.due("greatest of one", of(NONE, 0).told(3), 0);
            s.due("least at the end", of(99999, NONE, -99999).told(2), -99999);
            s.due("greatest at the start", of(99999, NONE, -99999).told(3), 99999);
            s.due("least at the start, above 0", of(3, 4).told(2), 3);
            s.due("greatest at the end, below 0", of(-4, -3).told(3), -3);
        });
        s.says("4 the number of gaps (rows of missing readings that cannot be made longer)", () -> {
            s.due("none", empty().told(4), 0);
            s.due("none is missing", of(1, 2).told(4), 0);
            s.due("all are missing", gap(64).told(4), 1);
            s.due("at both ends", of(NONE, NONE, 1, NONE).told(4), 2);
            s.due("between", of(1, NONE, 1, NONE, NONE, 1).told(4), 2);
        });
        s.says("5 the length of the longest gap", () -> {
            s.due("none", empty().told(5), 0);
            s.due("none is missing", of(1, 2).told(5), 0);
            s.due("all are missing", gap(64).told(5), 64);
            s.due("at the start", of(NONE, NONE, 1, NONE).told(5), 2);
            s.due("at the end", of(NONE, 1, NONE, NONE, NONE).told(5), 3);
        });
        s.says("6 the greatest m for which a second difference exists (0 if there is none)", () -> {
            s.due("none", empty().told(6), 0);
            s.due("two", zeros(2).told(6), 0);
            s.due("three", zeros(3).told(6), 1);
            s.due("four", zeros(4).told(6), 1);
            s.due("62", zeros(62).told(6), 30);
            s.due("63", zeros(63).told(6), 31);
            s.due("64", zeros(64).told(6), 31);
            s.due("all are missing", gap(64).told(6), 0);
            s.due("for m = 2 alone", of(1, NONE, 1, NONE, 1).told(6), 2);
        });
        s.says("7 bytes of the text", () -> {
            s.due("none", empty().told(7), 0);
            StabilityAnalyzer x = empty();
            for (int n = 1; n <= 120; n++) {
                x.write(' ');
                s.due("bytes", x.told(7), n);
            }
            x.write(' ');
            s.due("bytes after a refused one", x.told(7), 120);
        });
        s.says("8 changes that can be undone (also those that changed nothing)", () -> {
            StabilityAnalyzer x = empty();
            s.due("none", x.told(8), 0);
            for (int n = 1; n <= 10; n++) {
                x.clear();
                s.due("changes of nothing", x.told(8), Math.min(8, n));
            }
        });
        s.says("BAD if what is out of range.", () -> s.each("told", of(1, 2, 3)::told, BAD, -1, 9, 10, 256, LEAST, MOST, NONE));
    }

    private void reading() {
        s.part("Promise 14");
        s.says("NONE if it is missing", () -> {
            s.due("the first one", of(NONE, 1).reading(0), NONE);
            s.due("the last one", of(1, NONE).reading(1), NONE);
            s.due("not missing", of(0, NONE).reading(0), 0);
        });
        s.says("BAD if there is no such reading.", () -> {
            s.each("of 2", of(1, 2)::reading, BAD, -1, 2, 64, 256, 65536, LEAST, MOST);
            s.each("of none", empty()::reading, BAD, -1, 0, 1);
            s.each("of 64", gap(64)::reading, BAD, -1, 64, 65);
            StabilityAnalyzer x = of(1, 2, 3);
            x.undo();
            s.due("of what was undone", x.reading(2), BAD);
        });
    }

    private void difference() {
        s.part("Promise 15");
        s.says("`order`: 2 for a second difference, 3 for a third one, 4 for a mean difference", () -> {
            StabilityAnalyzer x = of(1, 10, 100, 1000, 10000, 7);
            s.due("2", x.difference(2, 2, 0), 10000 - 200 + 1);
            s.due("3", x.difference(3, 1, 0), 1000 - 300 + 30 - 1);
            s.due("4", x.difference(4, 2, 0), (10000 - 200 + 1) + (7 - 2000 + 10));
        });
        s.says("`m`: 1 to 31", () -> {
            for (int order = 2; order <= 4; order++) {
                int asked = order;
                s.inRange("order " + order, m -> zeros(64).difference(asked, m, 0), 1, 31);
            }
            s.due("31", impulse(63).difference(2, 31, 0), 1);
        });
        s.says("NONE if it does not exist", () -> {
            s.due("without readings", empty().difference(2, 1, 0), NONE);
            s.due("a reading too few", of(1, 2).difference(2, 1, 0), NONE);
            s.due("one is missing", of(1, NONE, 2).difference(2, 1, 0), NONE);
            s.due("i is no reading", of(1, 2, 3).difference(2, 1, 3), NONE);
            s.each("i is far off", i -> zeros(64).difference(2, 31, i), NONE, 2, 64, MOST - 62, MOST - 31, MOST);
            s.each("i is far off, third", i -> zeros(64).difference(3, 31, i), NONE, 0, 64, MOST - 93, MOST - 62, MOST - 31, MOST);
            s.each("i is far off, mean", i -> zeros(64).difference(4, 31, i), NONE, 0, 64, MOST - 93, MOST - 62, MOST - 31, MOST);
        });
        s.says("BAD if order or m is out of range, or i is negative.", () -> {
            s.each("order", order -> zeros(9).difference(order, 1, 0), BAD, 1, 5, 0, -1, LEAST, MOST);
            for (int order = 2; order <= 4; order++) {
                int asked = order;
                s.each("m, order " + order, m -> zeros(9).difference(asked, m, 0), BAD, 0, 32, -1, LEAST, MOST);
                s.each("i, order " + order, i -> zeros(9).difference(asked, 1, i), BAD, -1, -2, -31, LEAST);
            }
        });
    }

    private void count() {
        s.part("Promise 16");
        s.says("`order`: 2, 3 or 4, as above", () -> {
            s.due("2", zeros(9).count(2, 2), 5);
            s.due("3", zeros(9).count(3, 2), 3);
            s.due("4", zeros(9).count(4, 2), 4);
        });
        s.says("`m`: 1 to 31", () -> {
            for (int m = 1; m <= 31; m++) {
                s.due("second of 64, m " + m, zeros(64).count(2, m), 64 - 2 * m);
                s.due("third of 64, m " + m, zeros(64).count(3, m), Math.max(0, 64 - 3 * m));
                s.due("mean of 64, m " + m, zeros(64).count(4, m), Math.max(0, 65 - 3 * m));
            }
        });
        s.says("Returns how many exist", () -> {
            s.due("without readings", empty().count(2, 1), 0);
            s.due("a reading too few", zeros(2).count(2, 1), 0);
            s.due("just enough", zeros(3).count(2, 1), 1);
            s.due("all are missing", gap(64).count(4, 1), 0);
        });
        s.says("BAD if an argument is out of range.", () -> {
            s.each("order", order -> zeros(9).count(order, 1), BAD, 1, 5, 0, -1, LEAST, MOST);
            s.each("m", m -> zeros(9).count(2, m), BAD, 0, 32, -1, LEAST, MOST);
            s.each("m, third", m -> zeros(9).count(3, m), BAD, 0, 32);
            s.each("m, mean", m -> zeros(9).count(4, m), BAD, 0, 32);
        });
    }

    private void variance() {
        s.part("Promise 17");
        s.says("`which`: 0 to 3", () -> {
            long[] denominators = {2 * 4 * 60, 6 * 4 * 58, 2 * 16 * 59, 6 * 4 * 59};
            for (int which = 0; which <= 3; which++) {
                s.due("numerator of " + which, impulse(64).variance(which, 2, 0), 1);
                s.due("denominator of " + which, impulse(64).variance(which, 2, 1), denominators[which]);
            }
        });
        s.says("`m`: 1 to 31", () -> {
            for (int m = 1; m <= 31; m++) {
                s.due("denominator at " + m, impulse(64).variance(0, m, 1), 2L * m * m * (64 - 2 * m));
            }
        });
        s.says("`part`: 0 the numerator, 1 the denominator", () -> {
            s.due("numerator", of(5, 0, 0).variance(0, 1, 0), 25);
            s.due("denominator", of(5, 0, 0).variance(0, 1, 1), 2);
        });
        s.says("NONE if there is no variance", () -> {
            for (int which = 0; which <= 3; which++) {
                s.due("numerator of " + which, zeros(2).variance(which, 1, 0), NONE);
                s.due("denominator of " + which, zeros(2).variance(which, 1, 1), NONE);
                s.due("without readings, " + which, empty().variance(which, 31, 1), NONE);
            }
        });
        s.says("BAD if an argument is out of range.", () -> {
            s.each("which", which -> zeros(9).variance(which, 1, 0), BAD, -1, 4, LEAST, MOST);
            s.each("m", m -> zeros(9).variance(3, m, 0), BAD, 0, 32, -1, LEAST, MOST);
            s.each("part", part -> zeros(9).variance(0, 1, part), BAD, -1, 2, LEAST, MOST);
        });
    }

    private void deviation() {
        s.part("Promise 18");
        s.says("Returns the square root of a variance, rounded down, after multiplying the variance by 1000000.", () -> {
            s.due("the root of 500000 is 707.1", of(1, 0, 0).deviation(0, 1), 707);
            s.due("the root of 166666.6 is 408.2", of(1, 0, 0, 0).deviation(1, 1), 408);
            s.due("the root of 1 / 64 million is 125", of(1, 0, 0, 0, 0, 0, 0).deviation(2, 2), 125);
        });
        s.says("`which`: 0 to 3", () -> {
            int[] roots = {45, 26, 23, 26};
            for (int which = 0; which <= 3; which++) {
                s.due("of " + which, impulse(64).deviation(which, 2), roots[which]);
            }
        });
        s.says("`m`: 1 to 31", () -> s.inRange("deviation", m -> impulse(64).deviation(0, m), 1, 31));
        s.says("Returns the greatest r such that r * r is at most 1000000 times the variance", () -> {
            s.due("0", zeros(3).deviation(0, 1), 0);
            s.due("a square", of(2, 0, 0, 0).deviation(0, 1), 1000);
            s.due("the root of 8000000 is 2828.4", of(4, 0, 0).deviation(0, 1), 2828);
            s.due("the greatest Allan deviation", of(99999, -99999, 99999).deviation(0, 1), 282839884);
            s.due("the greatest Hadamard deviation", of(99999, -99999, 99999, -99999).deviation(1, 1), 326595366);
            s.due("the root is 999848.99", of(1414, 0, 0).deviation(0, 1), 999848);
        });
        s.says("NONE if there is no variance", () -> {
            for (int which = 0; which <= 3; which++) {
                s.due("of two, " + which, zeros(2).deviation(which, 1), NONE);
                s.due("without readings, " + which, empty().deviation(which, 31), NONE);
            }
        });
        s.says("BAD if an argument is out of range.", () -> {
            s.each("which", which -> zeros(9).deviation(which, 1), BAD, -1, 4, LEAST, MOST);
            s.each("m", m -> zeros(9).deviation(3, m), BAD, 0, 32, -1, LEAST, MOST);
        });
    }

    private void compare() {
        s.part("Promise 19");
        s.says("`which`: 0 to 3", () -> {
            s.inRange("compare", which -> zeros(64).compare(which, 1, 2), 0, 3);
            s.due("Allan, 1 / 10 and 1 / 24", impulse(7).compare(0, 1, 2), 2);
            s.due("Hadamard, 1 / 24 and 1 / 24", impulse(7).compare(1, 1, 2), 0);
            s.due("modified, 1 / 10 and 1 / 64", impulse(7).compare(2, 1, 2), 2);
            s.due("time, 1 / 30 and 1 / 48", impulse(7).compare(3, 1, 2), 2);
        });
        s.says("`m`: 1 to 31", () -> s.inRange("compare", m -> zeros(64).compare(0, m, 1), 1, 31));
        s.says("`other`: 1 to 31, an m, too", () -> s.inRange("compare", other -> zeros(64).compare(0, 1, other), 1, 31));
        s.says("Returns 0 if both are equal, 1 if the one for m is less, 2 if it is greater", () -> {
            s.due("1 / 24 and 1 / 24", impulse(7).compare(1, 2, 1), 0);
            s.due("with itself", impulse(7).compare(0, 3, 3), 0);
            s.due("both are 0", zeros(64).compare(2, 1, 21), 0);
            s.due("1 / 24 and 1 / 18", impulse(7).compare(0, 2, 3), 1);
            s.due("1 / 18 and 1 / 24", impulse(7).compare(0, 3, 2), 2);
            s.due("0 and 1 / 2", of(0, NONE, 0, 0, 1, 1).compare(0, 2, 1), 1);
        });
        s.says("NONE if one of them does not exist", () -> {
            s.due("the one for m", zeros(4).compare(0, 2, 1), NONE);
            s.due("the one for other", zeros(4).compare(0, 1, 2), NONE);
            s.due("both", zeros(4).compare(0, 2, 2), NONE);
            s.due("without readings", empty().compare(3, 31, 31), NONE);
        });
        s.says("BAD if an argument is out of range.", () -> {
            s.each("which", which -> zeros(9).compare(which, 1, 1), BAD, -1, 4, LEAST, MOST);
            s.each("m", m -> zeros(9).compare(0, m, 1), BAD, 0, 32, -1, LEAST, MOST);
            s.each("other", other -> zeros(9).compare(0, 1, other), BAD, 0, 32, -1, LEAST, MOST);
        });
    }

    private void best() {
        s.part("Promise 20");
        s.says("Finds the m at which a variance is least.", () -> {
            s.due("1 / 10, 1 / 24, 1 / 18", impulse(7).best(0), 2);
            s.due("0 is the least", of(0, 1, 0, 1, 0).best(0), 2);
            s.due("1 / 6 and 1 / 8", of(1, 0, 0, 0, 0).best(0), 2);
            s.due("13 / 6 and 2", of(0, 0, 2, 1, 0).best(0), 2);
            s.due("3 and 25 / 8", of(0, 0, 1, 1, -3).best(0), 1);
            s.due("1 and 9 / 8", of(0, 0, 1, 1, -1).best(0), 1);
        });
        s.says("`which`: 0 to 3", () -> s.inRange("best", which -> zeros(64).best(which), 0, 3));
        s.says("Returns the m, from 1 to 31, of several the least one", () -> {
            for (int which = 0; which <= 3; which++) {
                s.due("all are equal, " + which, zeros(64).best(which), 1);
            }
            s.due("1 / 24 and 1 / 24", impulse(7).best(1), 1);
            StabilityAnalyzer x = gap(63);
            x.set(0, 1);
            x.set(31, 2);
            x.set(62, 5);
            s.due("31 alone", x.best(0), 31);
            x = of(3, NONE, 3, NONE, 3, NONE, 3, NONE, 3);
            s.due("2 and 4 are equal", x.best(0), 2);
        });
        s.says("NONE if there is no variance for any m", () -> {
            for (int which = 0; which <= 3; which++) {
                s.due("two readings, " + which, zeros(2).best(which), NONE);
                s.due("all are missing, " + which, gap(64).best(which), NONE);
                s.due("without readings, " + which, empty().best(which), NONE);
            }
            s.due("three readings, third differences", zeros(3).best(1), NONE);
            s.due("four readings, third differences", zeros(4).best(1), 1);
        });
        s.says("BAD if which is out of range.", () -> {
            s.each("best", zeros(9)::best, BAD, -1, 4, LEAST, MOST);
            s.each("best of none", empty()::best, BAD, -1, 4);
        });
    }

    private void noise() {
        s.part("Promise 21");
        s.says("Tells the kind of the noise.", () -> s.due("4 * B = 3 * A", of(0, 0, -7, -14, -21).noise(1), 1));
        s.says("`m`: 1 to 15", () -> {
            s.inRange("noise", m -> impulse(64).noise(m), 1, 15);
            StabilityAnalyzer x = gap(61);
            x.set(0, 0);
            x.set(15, -1);
            x.set(30, 0);
            x.set(60, 7);
            s.due("at 15", x.noise(15), 4);
        });
        s.says("Returns the kind, 0 to 4", () -> {
            s.due("0", of(0, 1, 0, 1, 0).noise(1), 0);
            s.due("4", of(0, 1, 4, 9, 16).noise(1), 4);
        });
        s.says("NONE if there is none", () -> {
            s.due("without readings", empty().noise(1), NONE);
            s.due("four readings", of(0, 1, 4, 9).noise(1), NONE);
            s.due("A is 0", zeros(64).noise(15), NONE);
            s.due("60 readings", impulse(60).noise(15), NONE);
            s.holds("61 readings", impulse(61).noise(15) >= 0);
        });
        s.says("BAD if m is out of range.", () -> {
            s.each("noise", impulse(64)::noise, BAD, 0, 16, 31, -1, LEAST, MOST);
            s.each("noise of none", empty()::noise, BAD, 0, 16);
        });
    }

    private void freedom() {
        s.part("Promise 22");
        s.says("`m`: 1 to 15", () -> {
            for (int m = 1; m <= 15; m++) {
                StabilityAnalyzer x = empty();
                for (int t = 0; t < 64; t++) {
                    x.add(t * t);
                }
                s.due("squares at " + m, x.freedom(m), (64 - 2 * m) / m);
            }
        });
        s.says("NONE if there is no kind of noise", () -> {
            s.due("without readings", empty().freedom(1), NONE);
            s.due("no B", of(0, 1, 4, 9).freedom(1), NONE);
            s.due("no A", of(0, NONE, 1, NONE, 4).freedom(1), NONE);
            s.due("A is 0", of(0, 0, 0, NONE, 5).freedom(1), NONE);
        });
        s.says("BAD if m is out of range.", () -> {
            s.each("freedom", impulse(64)::freedom, BAD, 0, 16, 31, -1, LEAST, MOST);
            s.each("freedom of none", empty()::freedom, BAD, 0, 16);
        });
    }

    private void outliers() {
        s.part("Promise 23");
        s.says("`limit`: the limit, 0 to 99999", () -> {
            s.due("0, a bend of 0", of(1, 2, 3).outliers(0), 0);
            s.due("0, a bend of 1", of(1, 2, 2).outliers(0), 1);
            s.due("99999, a bend of 199998", of(0, 99999, 0).outliers(99999), 0);
            s.due("99999, a bend of 199999", of(0, 99999, -1).outliers(99999), 1);
        });
        s.says("Returns how many there are", () -> {
            s.due("none", empty().outliers(0), 0);
            StabilityAnalyzer x = empty();
            for (int i = 0; i < 64; i++) {
                x.add(i % 2 == 0 ? -99999 : 99999);
            }
            s.due("all but the first and the last one", x.outliers(99999), 62);
            s.due("they are not removed", x.told(1), 64);
        });
        s.says("BAD if limit is out of range.", () -> s.each("outliers", of(0, 9, 0)::outliers, BAD, -1, 100000, LEAST, MOST, NONE));
    }

    private void write() {
        s.part("Promise 24");
        s.says("`code`: the byte, 32 to 126", () -> {
            for (int code = 32; code <= 126; code++) {
                s.due("write(" + code + ")", empty().write(code), 1);
            }
        });
        s.says("Returns the new length of the text", () -> {
            StabilityAnalyzer x = empty();
            for (int n = 1; n <= 120; n++) {
                s.due("length", x.write('1'), n);
            }
        });
        s.says("BAD if code is out of range", () -> {
            s.each("write", empty()::write, BAD, 31, 127, 0, -1, 10, 256 + 48, 65536 + 48, LEAST, MOST);
            s.each("write at 120", typed("7".repeat(120))::write, BAD, 31, 127);
        });
        s.says("FULL if the text has 120 bytes.", () -> {
            StabilityAnalyzer x = typed("7".repeat(119));
            s.due("the 120th", x.write(';'), 120);
            s.due("the 121st", x.write(';'), FULL);
            s.due("again", x.write(';'), FULL);
            x.wipe();
            s.due("after wipe", x.write(';'), 1);
        });
    }

    private void wipe() {
        s.part("Promise 25");
        s.says("Empties the text.", () -> {
            StabilityAnalyzer x = typed("1;2;x");
            x.wipe();
            s.due("bytes", x.told(7), 0);
            s.due("load of nothing", x.load(), 0);
            Checks.type(x, "3;");
            s.due("load of the new text", x.load(), 1);
            Checks.type(x, "12345;");
            Checks.type(x, "12");
            s.due("load of a shorter text", x.load(), STATE);
            s.due("its end", x.fault(1), 2);
        });
        s.says("Returns the length that it had.", () -> {
            s.due("0", empty().wipe(), 0);
            s.due("1", typed("x").wipe(), 1);
            s.due("120", typed("x".repeat(120)).wipe(), 120);
            StabilityAnalyzer x = typed("x");
            x.wipe();
            s.due("twice", x.wipe(), 0);
        });
    }

    private void loads(String text, int... want) {
        StabilityAnalyzer x = typed(text);
        x.add(77);
        s.due("load of " + text, x.load(), want.length);
        s.readings("load of " + text, x, want);
    }

    private void faulty(String text, int kind, int place) {
        StabilityAnalyzer x = typed(text);
        x.add(77);
        s.due("load of " + text, x.load(), STATE);
        s.due("kind of the fault of " + text, x.fault(0), kind);
        s.due("place of the fault of " + text, x.fault(1), place);
        s.readings("after load of " + text, x, 77);
    }

    private void load() {
        s.part("Promise 26");
        s.says("Reads readings from the text, in place of all readings", () -> {
            StabilityAnalyzer x = of(1, 2, 3, 4);
            Checks.type(x, "9;?;");
            x.load();
            s.readings("fewer", x, 9, NONE);
            Checks.type(x, "");
            x.load();
            s.readings("none", x);
        });
        s.says("the text stays", () -> {
            StabilityAnalyzer x = typed("9;?*2;");
            s.due("load", x.load(), 3);
            s.due("bytes", x.told(7), 6);
            s.due("load again", x.load(), 3);
            x.write('x');
            x.load();
            s.due("bytes after a fault", x.told(7), 7);
        });
        s.says("The text consists of items, perhaps none, each of which ends with a semicolon", () -> {
            loads("");
            loads("5;", 5);
            loads("5;6;", 5, 6);
            faulty("5", 1, 1);
            faulty("5;6", 1, 3);
            faulty(";", 1, 0);
            faulty("5;;", 1, 2);
            loads("?;".repeat(60), copies(NONE, 60));
        });
        s.says("there are no blanks", () -> {
            faulty(" ", 1, 0);
            faulty(" 5;", 1, 0);
            faulty("5 ;", 1, 1);
            faulty("5; 6;", 1, 2);
            faulty("- 5;", 1, 1);
            faulty("5* 2;", 1, 2);
            faulty("5*2 ;", 1, 3);
            faulty("5; ", 1, 2);
        });
        s.says("This is a change.", () -> {
            StabilityAnalyzer x = of(1, NONE);
            Checks.type(x, "1;?;");
            s.due("load of the same", x.load(), 2);
            s.due("changes", x.told(8), 3);
            s.due("undo", x.undo(), 2);
            s.readings("undone", x, 1, NONE);
            s.due("load of nothing by a new one", empty().load(), 0);
            StabilityAnalyzer y = empty();
            y.load();
            s.due("changes then", y.told(8), 1);
        });
        s.says("STATE if the text has a fault.", () -> {
            s.due("load", typed("x").load(), STATE);
            StabilityAnalyzer x = typed("1*64;1;");
            s.due("load of more than 64 is no FULL", x.load(), STATE);
            s.due("load of a great number is no BAD", typed("1*65;").load(), STATE);
        });
    }

    private static int[] copies(int phase, int times) {
        int[] row = new int[times];
        for (int i = 0; i < times; i++) {
            row[i] = phase;
        }
        return row;
    }

    private void items() {
        s.says("An item is a phase, which is a number with one to five digits (also zeros) and perhaps the sign - before it", () -> {
            loads("0;00000;-0;-00000;", 0, 0, 0, 0);
            loads("9;-9;99999;-99999;", 9, -9, 99999, -99999);
            loads("00012;-012;", 12, -12);
            faulty("100000;", 1, 5);
            faulty("000001;", 1, 5);
            faulty("-000001;", 1, 6);
            faulty("-;", 1, 1);
            faulty("--5;", 1, 1);
            faulty("+5;", 1, 0);
            loads("4*2;", 4, 4);
            loads("-99999*2;", -99999, -99999);
            loads("4*02;4*01;", 4, 4, 4);
            faulty("4*;", 1, 2);
            faulty("4*002;", 2, 2);
            faulty("4*012;", 1, 4);
            loads("?;", NONE);
            loads("?*3;?*03;", copies(NONE, 6));
            faulty("-?;", 1, 1);
            faulty("?4;", 1, 1);
            faulty("*4;", 1, 0);
        });
        s.says("A number behind * is from 1 to 64.", () -> {
            for (int times = 0; times <= 99; times++) {
                if (times < 1 || times > 64) {
                    faulty("7*" + times + ";", 2, 2);
                } else {
                    loads("7*" + times + ";", copies(7, times));
                }
            }
        });
    }

    private void faultKinds() {
        s.part("Promise 27");
        s.says("1 a byte that cannot stand at its place (its place is its position, from 0), or the end of the text within an item", () -> {
            String digits = "0123456789";
            for (int code = 32; code <= 126; code++) {
                String sign = String.valueOf((char) code);
                boolean digit = digits.contains(sign);
                follows("", sign, digit || sign.equals("-") || sign.equals("?"));
                follows("-", sign, digit);
                follows("1234", sign, digit || sign.equals("*") || sign.equals(";"));
                follows("12345", sign, sign.equals("*") || sign.equals(";"));
                follows("?", sign, sign.equals("*") || sign.equals(";"));
                follows("?*", sign, digit);
                follows("1*2", sign, digit || sign.equals(";"));
                follows("1*12", sign, sign.equals(";"));
                follows("1;", sign, digit || sign.equals("-") || sign.equals("?"));
            }
            for (String open : new String[] {"-", "5", "12345", "-12345", "?", "5*", "?*", "5*6", "5*64"}) {
                faulty(open, 1, open.length());
                faulty("1;" + open, 1, open.length() + 2);
            }
            faulty("1;".repeat(59) + "12", 1, 120);
        });
        s.says("2 a number behind * that is 0 or above 64 (the position of its first digit", () -> {
            faulty("5*0;", 2, 2);
            faulty("5*00;", 2, 2);
            faulty("5*65;", 2, 2);
            faulty("5*99;", 2, 2);
            faulty("?*65;", 2, 2);
            faulty("1;-12345*0;", 2, 9);
            loads("5*1;", 5);
            loads("5*64;", copies(5, 64));
        });
        s.says("it is checked, ahead of what stands behind it, when the next byte is no digit, at the end of the text, or behind its second", () -> {
            faulty("5*0x", 2, 2);
            faulty("5*0*", 2, 2);
            faulty("5*0-", 2, 2);
            faulty("5*0", 2, 2);
            faulty("5*00", 2, 2);
            faulty("5*65", 2, 2);
            faulty("5*650", 2, 2);
            faulty("5*65x", 2, 2);
            faulty("5*000;", 2, 2);
            faulty("5*640;", 1, 4);
            faulty("5*010;", 1, 4);
            loads("5*01;", 5);
        });
        s.says("3 an item by which there would be more than 64 readings (the position of its first byte", () -> {
            faulty("1*64;2;", 3, 5);
            faulty("1*64;?;", 3, 5);
            faulty("1*64;-2*3;", 3, 5);
            faulty("1*63;2*2;", 3, 5);
            faulty("1*63;2;3;", 3, 7);
            faulty("1*32;2*32;3;", 3, 10);
            loads("1*63;1;", copies(1, 64));
        });
        s.says("it is checked behind its semicolon)", () -> {
            faulty("1*64;2", 1, 6);
            faulty("1*64;2x", 1, 6);
            faulty("1*64;-", 1, 6);
            faulty("1*64;2*0;", 2, 7);
            faulty("1*64;2*65", 2, 7);
            faulty("1*64;2*2", 1, 8);
            faulty("1*64;2;x", 3, 5);
            faulty("1*64;x", 1, 5);
        });
    }

    /** A sign that can't stand there is a fault at its place; one that can is none, so that the end of the text is, if any. */
    private void follows(String open, String sign, boolean can) {
        StabilityAnalyzer x = typed(open + sign);
        int answer = x.load();
        if (!can) {
            s.due(open + sign, answer, STATE);
            s.due("kind of " + open + sign, x.fault(0), 1);
            s.due("place of " + open + sign, x.fault(1), open.length());
        } else if (answer == STATE && x.fault(0) == 1) {
            s.due("place of " + open + sign, x.fault(1), open.length() + 1);
        } else {
            s.holds(open + sign + " is whole, or its number is wrong", sign.equals(";") || open.contains("*"));
        }
    }

    private void fault() {
        s.says("Tells about the fault that the latest call of load() with the result STATE has found.", () -> {
            StabilityAnalyzer x = typed("12;x");
            x.load();
            Checks.type(x, "5*0;");
            s.due("kind before the next load", x.fault(0), 1);
            s.due("place before the next load", x.fault(1), 3);
            x.load();
            s.due("kind of the later one", x.fault(0), 2);
            s.due("place of the later one", x.fault(1), 2);
            Checks.type(x, "5;");
            s.due("load that works", x.load(), 1);
            s.due("kind after it", x.fault(0), 2);
            s.due("place after it", x.fault(1), 2);
        });
        s.says("`what`: 0 the kind", () -> s.due("kind", faultOf("1*64;2;", 0), 3));
        s.says("1 the place", () -> s.due("place", faultOf("1*64;2;", 1), 5));
        s.says("NONE if there was no such call", () -> {
            s.due("kind of a new one", empty().fault(0), NONE);
            s.due("place of a new one", empty().fault(1), NONE);
            s.due("kind after a load that works", faultOf("5;", 0), NONE);
            s.due("place after a load that works", faultOf("5;", 1), NONE);
            s.due("a faulty text that was not loaded", typed("x").fault(0), NONE);
        });
        s.says("BAD if what is out of range.", () -> {
            s.each("fault of none", empty()::fault, BAD, -1, 2, LEAST, MOST);
            StabilityAnalyzer x = typed("x");
            x.load();
            s.each("fault", x::fault, BAD, -1, 2, LEAST, MOST);
        });
    }

    private static int faultOf(String text, int what) {
        StabilityAnalyzer x = typed(text);
        x.load();
        return x.fault(what);
    }

    private void keep() {
        s.part("Promise 28");
        s.says("Keeps the readings in an image, replacing what it kept before.", () -> {
            StabilityAnalyzer x = of(1, NONE, 3);
            x.keep(0);
            x.clear();
            s.due("keep of fewer", x.keep(0), 0);
            x.add(5);
            s.due("back to none", x.back(0), 0);
            x = gap(64);
            s.due("keep of 64", x.keep(1), 64);
            x.clear();
            s.due("back to 64", x.back(1), 64);
        });
        s.says("(This is no change.)", () -> {
            StabilityAnalyzer x = of(1);
            x.keep(0);
            s.due("changes", x.told(8), 1);
            s.due("undo", x.undo(), 0);
        });
        s.says("`i`: the image, 0 or 1", () -> {
            StabilityAnalyzer x = of(1);
            s.due("keep(0)", x.keep(0), 1);
            x.add(2);
            s.due("keep(1)", x.keep(1), 2);
            s.due("back(0)", x.back(0), 1);
            s.due("back(1)", x.back(1), 2);
        });
        s.says("BAD if there is no such image.", () -> s.each("keep", of(1)::keep, BAD, -1, 2, 256, LEAST, MOST));
    }

    private void back() {
        s.part("Promise 29");
        s.says("the image stays", () -> {
            StabilityAnalyzer x = of(1, NONE);
            x.keep(0);
            x.back(0);
            x.set(0, 5);
            x.add(6);
            s.due("back", x.back(0), 2);
            s.readings("what was kept", x, 1, NONE);
        });
        s.says("This is a change.", () -> {
            StabilityAnalyzer x = of(1, NONE);
            x.keep(0);
            s.due("back to the same", x.back(0), 2);
            s.due("changes", x.told(8), 3);
            x.clear();
            x.back(0);
            s.due("undo", x.undo(), 4);
            s.readings("undone", x);
        });
        s.says("BAD if there is no such image", () -> {
            s.each("back, nothing was kept", empty()::back, BAD, -1, 2, 256, LEAST, MOST);
            StabilityAnalyzer x = of(1);
            x.keep(0);
            x.keep(1);
            s.each("back", x::back, BAD, -1, 2, LEAST, MOST);
        });
        s.says("STATE if nothing was kept in it.", () -> {
            s.due("image 0", of(1).back(0), STATE);
            StabilityAnalyzer x = of(1);
            x.keep(0);
            s.due("image 1 beside image 0", x.back(1), STATE);
            StabilityAnalyzer y = empty();
            y.keep(1);
            s.due("no readings were kept", y.back(1), 0);
            s.due("image 0 beside image 1", y.back(0), STATE);
        });
    }
}
