import java.io.IOException;
import java.nio.file.Path;
import java.util.Set;
import java.util.function.ToLongFunction;

/** The sentences of promises 1 to 12 (the readings) that name a boundary, each with a test of its own. */
public final class ReadingSentencesTest {
    private static final int NONE = -1000000001;
    private static final int BAD = -1000000002;
    private static final int STATE = -1000000003;
    private static final int FULL = -1000000004;
    private static final int LARGE = -1000000005;
    private static final int LEAST = Integer.MIN_VALUE;
    private static final int MOST = Integer.MAX_VALUE;

    private final Sentences s;

    private ReadingSentencesTest(Sentences s) {
        this.s = s;
    }

    public static void main(String[] args) throws IOException {
        Sentences sentences = new Sentences(Path.of(args[0], "..", "shared", "DOC.md"));
        ReadingSentencesTest test = new ReadingSentencesTest(sentences);
        test.newObject();
        test.add();
        test.skip();
        test.set();
        test.clear();
        test.removeLine();
        test.addLine();
        test.removeDrift();
        test.removeOutliers();
        test.fill();
        test.thin();
        test.undo();
        Set<String> asked = Set.of("Promise 1", "Promise 2", "Promise 3", "Promise 4", "Promise 5", "Promise 6", "Promise 7",
            "Promise 8", "Promise 9", "Promise 10", "Promise 11", "Promise 12");
        sentences.close(asked::contains);
    }

    private static StabilityAnalyzer of(int... phases) {
        return Checks.of(phases);
    }

    private static StabilityAnalyzer empty() {
        return new StabilityAnalyzer();
    }

    private static StabilityAnalyzer gap(int n) {
        StabilityAnalyzer x = empty();
        x.skip(n);
        return x;
    }

    /** The call is recorded, and undoing it brings the readings back that stood before it. */
    private void isChange(String call, ToLongFunction<StabilityAnalyzer> change, long answer, int... before) {
        StabilityAnalyzer x = of(before);
        int changes = x.told(8);
        s.due(call, change.applyAsLong(x), answer);
        s.due(call + ": changes", x.told(8), Math.min(8, changes + 1));
        s.due(call + ": undo", x.undo(), Math.min(7, changes));
        s.readings(call + " undone", x, before);
    }

    private void newObject() {
        s.part("Promise 1");
        s.says("Creates an analyzer without readings, with an empty text", () -> {
            s.due("N", empty().told(0), 0);
            s.due("reading 0", empty().reading(0), BAD);
            s.due("readings that are not missing", empty().told(1), 0);
            s.due("gaps", empty().told(4), 0);
            s.due("bytes", empty().told(7), 0);
            s.due("wipe", empty().wipe(), 0);
            s.due("load", empty().load(), 0);
        });
        s.says("there was no fault, the images keep nothing, and nothing can be undone.", () -> {
            s.due("kind of the fault", empty().fault(0), NONE);
            s.due("place of the fault", empty().fault(1), NONE);
            s.due("image 0", empty().back(0), STATE);
            s.due("image 1", empty().back(1), STATE);
            s.due("undo", empty().undo(), STATE);
            s.due("changes", empty().told(8), 0);
        });
    }

    private void add() {
        s.part("Promise 2");
        s.says("This is a change.", () -> isChange("add(0)", x -> x.add(0), 2, 0, NONE));
        s.says("`x`: its phase, -99999 to 99999", () -> {
            StabilityAnalyzer x = of(7);
            s.due("add(-99999)", x.add(-99999), 1);
            s.due("add(99999)", x.add(99999), 2);
            s.readings("both", x, 7, -99999, 99999);
        });
        s.says("BAD if x is out of range", () -> {
            s.each("add", empty()::add, BAD, -100000, 100000, LEAST, MOST, NONE, BAD);
            s.each("add to 64", gap(64)::add, BAD, -100000, 100000, LEAST, MOST);
        });
        s.says("FULL if there are 64 readings.", () -> {
            s.due("add to 64", gap(64).add(0), FULL);
            s.due("add to 63", gap(63).add(0), 63);
        });
    }

    private void skip() {
        s.part("Promise 3");
        s.says("Appends missing readings.", () -> {
            StabilityAnalyzer x = of(4);
            s.due("skip(1)", x.skip(1), 2);
            s.due("skip(2)", x.skip(2), 4);
            s.readings("all", x, 4, NONE, NONE, NONE);
        });
        s.says("This is a change.", () -> isChange("skip(2)", x -> x.skip(2), 4, 0, NONE));
        s.says("`n`: how many, 1 to 64", () -> {
            for (int n = 1; n <= 64; n++) {
                StabilityAnalyzer x = gap(n);
                s.due("N after " + n, x.told(0), n);
                s.due("the last one of " + n, x.reading(n - 1), NONE);
                s.due("one behind " + n, x.reading(n), BAD);
            }
        });
        s.says("BAD if n is out of range", () -> {
            s.each("skip", empty()::skip, BAD, 0, -1, 65, LEAST, MOST, NONE);
            s.each("skip at 64", gap(64)::skip, BAD, 0, -1, 65, LEAST, MOST);
        });
        s.says("FULL if there would be more than 64 readings.", () -> {
            s.due("64 + 1", gap(64).skip(1), FULL);
            s.due("1 + 64", of(5).skip(64), FULL);
            s.due("30 + 35", gap(30).skip(35), FULL);
            s.due("30 + 34", gap(30).skip(34), 64);
            s.due("0 + 64", empty().skip(64), 64);
            s.due("63 + 1", gap(63).skip(1), 64);
        });
    }

    private void set() {
        s.part("Promise 4");
        s.says("This is a change.", () -> {
            isChange("set(1, 6)", x -> x.set(1, 6), NONE, 0, NONE);
            isChange("set(0, 0), the same", x -> x.set(0, 0), 0, 0, NONE);
            isChange("set(1, NONE), the same", x -> x.set(1, NONE), NONE, 0, NONE);
        });
        s.says("`x`: its new phase, -99999 to 99999, or NONE so that it is missing", () -> {
            StabilityAnalyzer x = of(1, 2, 3);
            x.set(0, -99999);
            x.set(1, 99999);
            x.set(2, NONE);
            s.readings("all", x, -99999, 99999, NONE);
            s.due("readings that are not missing", x.told(1), 2);
        });
        s.says("Returns its previous phase, NONE if it was missing", () -> {
            StabilityAnalyzer x = of(5);
            s.due("a phase ahead", x.set(0, NONE), 5);
            s.due("missing ahead", x.set(0, NONE), NONE);
            s.due("missing ahead again", x.set(0, -5), NONE);
            s.due("a phase ahead again", x.set(0, 1), -5);
        });
        s.says("BAD if there is no such reading or x is not as described.", () -> {
            s.each("set of no reading", i -> of(1, 2).set(i, 0), BAD, -1, 2, 64, LEAST, MOST);
            s.each("set to missing of no reading", i -> of(1, 2).set(i, NONE), BAD, -1, 2);
            s.each("set without readings", i -> empty().set(i, 0), BAD, -1, 0, 1);
            s.each("set at 64", i -> gap(64).set(i, 0), BAD, -1, 64);
            s.each("set to no phase", phase -> of(1, 2).set(1, phase), BAD, -100000, 100000, LEAST, MOST, NONE + 1, BAD, STATE,
                FULL, LARGE);
            s.due("the last of 64", gap(64).set(63, 0), NONE);
            s.due("the first one", of(1, 2).set(0, 0), 1);
            s.due("the last one", of(1, 2).set(1, 0), 2);
        });
    }

    private void clear() {
        s.part("Promise 5");
        s.says("Removes all readings.", () -> {
            StabilityAnalyzer x = of(1, NONE, 3);
            x.clear();
            s.readings("none", x);
            x.add(4);
            s.readings("the next one is the first", x, 4);
        });
        s.says("This is a change.", () -> {
            isChange("clear()", StabilityAnalyzer::clear, 2, 0, NONE);
            isChange("clear() of nothing", StabilityAnalyzer::clear, 0);
        });
        s.says("Returns how many there were.", () -> {
            s.due("none", empty().clear(), 0);
            s.due("one", gap(1).clear(), 1);
            s.due("64", gap(64).clear(), 64);
        });
    }

    private void removeLine() {
        s.part("Promise 6");
        s.says("Subtracts the line through two readings from all readings that are not missing.", () -> {
            StabilityAnalyzer x = of(9, NONE, 1, 4, NONE, 0);
            s.due("ahead, between and behind", x.removeLine(2, 3), 4);
            s.readings("all", x, 14, NONE, 0, 0, NONE, -10);
            x = gap(64);
            x.set(0, 7);
            x.set(63, 8);
            s.due("through the first and the last one", x.removeLine(0, 63), 2);
            s.due("the first one", x.reading(0), 0);
            s.due("the last one", x.reading(63), 0);
        });
        s.says("This is a change.", () -> {
            isChange("removeLine(0, 1)", x -> x.removeLine(0, 1), 2, 3, 4, NONE);
            isChange("removeLine(0, 1) of 0", x -> x.removeLine(0, 1), 0, 0, 0, 5);
        });
        s.says("`j`: the other one, greater than i", () -> {
            s.due("j is i + 1", of(3, 4).removeLine(0, 1), 2);
            s.due("j is i", of(3, 4).removeLine(1, 1), BAD);
            s.due("j is i - 1", of(3, 4).removeLine(1, 0), BAD);
        });
        s.says("Returns how many phases become different", () -> {
            s.due("none", of(0, 0, 7).removeLine(0, 1), 0);
            s.due("but where the line is 0", of(0, 1, 7).removeLine(0, 1), 2);
            s.due("but where a part of a step is rounded to 0", of(0, 5, 1).removeLine(0, 2), 1);
            s.due("all that are there", of(1, NONE, 1, 1).removeLine(0, 2), 3);
        });
        s.says("BAD if there is no such reading or j is not greater than i", () -> {
            s.each("i", i -> of(1, 2, 3).removeLine(i, 2), BAD, -1, 2, 3, LEAST, MOST);
            s.each("j", j -> of(1, 2, 3).removeLine(0, j), BAD, 0, -1, 3, LEAST, MOST);
            s.due("both beyond", of(1, 2, 3).removeLine(3, 4), BAD);
            s.due("without readings", empty().removeLine(0, 1), BAD);
            s.due("beyond 64", gap(64).removeLine(0, 64), BAD);
        });
        s.says("STATE if one of both is missing", () -> {
            s.due("i", of(NONE, 1, 2).removeLine(0, 1), STATE);
            s.due("j", of(1, NONE, 2).removeLine(0, 1), STATE);
            s.due("both", of(NONE, NONE, 2).removeLine(0, 1), STATE);
            s.due("one between", of(1, NONE, 2).removeLine(0, 2), 2);
        });
        s.says("LARGE if a phase would not be from -99999 to 99999.", () -> {
            s.due("100000", of(99999, 0, 1).removeLine(1, 2), LARGE);
            s.due("99999", of(99998, 0, 1).removeLine(1, 2), 2);
            s.due("-100000", of(-99999, 0, -1).removeLine(1, 2), LARGE);
            s.due("-99999", of(-99998, 0, -1).removeLine(1, 2), 2);
            s.due("100000 behind", of(0, -1, 99998).removeLine(0, 1), LARGE);
            s.due("99999 behind", of(0, -1, 99997).removeLine(0, 1), 2);
            s.due("a missing one behind", of(99999, -99999, NONE).removeLine(0, 1), 2);
        });
    }

    private void addLine() {
        s.part("Promise 7");
        s.says("Adds a line to all readings that are not missing", () -> {
            StabilityAnalyzer x = of(1, NONE, 3);
            s.due("addLine(10, 5)", x.addLine(10, 5), 2);
            s.readings("all", x, 6, NONE, 28);
            x = gap(64);
            x.set(63, 0);
            s.due("the last one", x.addLine(1000, 1), 1);
            s.due("the last one then", x.reading(63), 63001);
        });
        s.says("This is a change.", () -> {
            isChange("addLine(1, 1)", x -> x.addLine(1, 1), 2, 3, 4, NONE);
            isChange("addLine(0, 0)", x -> x.addLine(0, 0), 0, 3, 4, NONE);
            isChange("addLine(9, 9) to nothing", x -> x.addLine(9, 9), 0);
        });
        s.says("`slope`: -9999 to 9999", () -> {
            s.due("-9999", of(0, 0).addLine(-9999, 0), 1);
            s.due("9999", of(0, 0).addLine(9999, 0), 1);
        });
        s.says("`offset`: -99999 to 99999", () -> {
            s.due("-99999", of(0, 0).addLine(0, -99999), 2);
            s.due("99999", of(0, 0).addLine(0, 99999), 2);
        });
        s.says("Returns how many phases become different", () -> {
            s.due("none", of(5, 6).addLine(0, 0), 0);
            s.due("but where the line is 0", of(5, 6, 7).addLine(2, -2), 2);
            s.due("all that are there", of(5, NONE, 7).addLine(0, 1), 2);
        });
        s.says("BAD if an argument is out of range", () -> {
            s.each("slope", slope -> of(0).addLine(slope, 0), BAD, -10000, 10000, LEAST, MOST, NONE);
            s.each("offset", offset -> of(0).addLine(0, offset), BAD, -100000, 100000, LEAST, MOST, NONE);
            s.each("slope without readings", slope -> empty().addLine(slope, 0), BAD, -10000, 10000);
        });
        s.says("LARGE if a phase would not be from -99999 to 99999.", () -> {
            s.due("100000", of(99998).addLine(0, 2), LARGE);
            s.due("99999", of(99998).addLine(0, 1), 1);
            s.due("-100000", of(-99998).addLine(0, -2), LARGE);
            s.due("-99999", of(-99998).addLine(0, -1), 1);
            s.due("far off", zeros(64).addLine(9999, 0), LARGE);
            s.due("far off below", zeros(64).addLine(-9999, 99999), LARGE);
            s.due("far off, missing there", gap(64).addLine(9999, 99999), 0);
            s.due("the last one alone", of(0, 0, 99998).addLine(1, 0), LARGE);
        });
    }

    private static StabilityAnalyzer zeros(int n) {
        StabilityAnalyzer x = empty();
        for (int i = 0; i < n; i++) {
            x.add(0);
        }
        return x;
    }

    private void removeDrift() {
        s.part("Promise 8");
        s.says("from each reading t that is not missing, d * t * (t - 1) / 2 is subtracted", () -> {
            StabilityAnalyzer x = of(0, 0, 3, NONE, NONE, 0);
            s.due("drift", x.removeDrift(), 3);
            s.readings("t * (t - 1) / 2 is 0, 0, 1, 3, 6, 10", x, 0, 0, 0, NONE, NONE, -30);
            x = gap(64);
            x.set(0, 0);
            x.set(1, 0);
            x.set(2, -1);
            x.set(63, 0);
            s.due("drift below 0", x.removeDrift(), -1);
            s.due("the last one", x.reading(63), 63 * 62 / 2);
            x = of(0, 0, 3);
            x.addLine(0, 5);
            x.removeDrift();
            s.readings("nothing is left over from addLine", x, 5, 5, 5);
        });
        s.says("This is a change.", () -> {
            isChange("removeDrift()", StabilityAnalyzer::removeDrift, 1, 3, 4, 6);
            isChange("removeDrift() of 0", StabilityAnalyzer::removeDrift, 0, 3, 4, 5);
        });
        s.says("STATE if no second difference for m = 1 exists", () -> {
            s.due("without readings", empty().removeDrift(), STATE);
            s.due("two", of(1, 2).removeDrift(), STATE);
            s.due("three", of(1, 2, 3).removeDrift(), 0);
            s.due("for m = 2 alone", of(1, NONE, 2, NONE, 3).removeDrift(), STATE);
            s.due("never three in a row", of(1, 2, NONE, 3, 4).removeDrift(), STATE);
            s.due("three in a row at the end", of(1, 2, NONE, 3, 4, 5).removeDrift(), 0);
        });
        s.says("LARGE if a phase would not be from -99999 to 99999.", () -> {
            s.due("-100000", of(0, 0, 1, NONE, -99994).removeDrift(), LARGE);
            s.due("-99999", of(0, 0, 1, NONE, -99993).removeDrift(), 1);
            s.due("100000", of(0, 0, -1, NONE, 99994).removeDrift(), LARGE);
            s.due("99999", of(0, 0, -1, NONE, 99993).removeDrift(), -1);
            s.due("the greatest drift", of(99999, -99999, 99999).removeDrift(), LARGE);
            s.due("the least drift", of(-99999, 99999, -99999).removeDrift(), LARGE);
        });
    }

    private void removeOutliers() {
        s.part("Promise 9");
        s.says("Makes all outliers missing, which are found first and removed then.", () -> {
            StabilityAnalyzer x = of(0, 10, 0, 10, 0);
            s.due("neighbours are outliers too", x.removeOutliers(9), 3);
            s.readings("all", x, 0, NONE, NONE, NONE, 0);
            x = of(0, 10, 0, 0);
            s.due("removeOutliers(0)", x.removeOutliers(0), 2);
            s.readings("0 beside 10 as well", x, 0, NONE, NONE, 0);
        });
        s.says("This is a change.", () -> {
            isChange("removeOutliers(0)", x -> x.removeOutliers(0), 1, 0, 9, 0);
            isChange("removeOutliers(9) of none", x -> x.removeOutliers(9), 0, 0, 9, 0);
            isChange("removeOutliers(0) of nothing", x -> x.removeOutliers(0), 0);
        });
        s.says("`limit`: the limit, 0 to 99999", () -> {
            s.due("0, a bend of 0", of(1, 2, 3).removeOutliers(0), 0);
            s.due("0, a bend of 1", of(1, 2, 2).removeOutliers(0), 1);
            s.due("99999, a bend of 199998", of(0, 99999, 0).removeOutliers(99999), 0);
            s.due("99999, a bend of 199999", of(0, 99999, -1).removeOutliers(99999), 1);
        });
        s.says("Returns how many there are", () -> {
            s.due("none", empty().removeOutliers(0), 0);
            StabilityAnalyzer x = empty();
            for (int i = 0; i < 64; i++) {
                x.add(i % 2);
            }
            s.due("all but the first and the last one", x.removeOutliers(0), 62);
            s.due("those that are left", x.told(1), 2);
        });
        s.says("BAD if limit is out of range.", () ->
            s.each("removeOutliers", of(0, 9, 0)::removeOutliers, BAD, -1, 100000, LEAST, MOST, NONE));
    }

    private void fill() {
        s.part("Promise 10");
        s.says("Fills gaps: each row of missing readings that cannot be made longer, is at most so long", () -> {
            StabilityAnalyzer x = of(NONE, 0, NONE, 8, NONE, NONE, 2, NONE, NONE, NONE, 6, NONE);
            s.due("gaps of 1 alone", x.fill(1), 1);
            s.readings("a gap of 1", x, NONE, 0, 4, 8, NONE, NONE, 2, NONE, NONE, NONE, 6, NONE);
            s.due("gaps of 2 alone", x.fill(2), 2);
            s.readings("a gap of 2", x, NONE, 0, 4, 8, 6, 4, 2, NONE, NONE, NONE, 6, NONE);
            s.due("gaps of 3", x.fill(3), 3);
            s.readings("a gap of 3, and never one at an end", x, NONE, 0, 4, 8, 6, 4, 2, 3, 4, 5, 6, NONE);
            s.due("gaps at the ends", x.fill(64), 0);
        });
        s.says("This is a change.", () -> {
            isChange("fill(1)", x -> x.fill(1), 1, 0, NONE, 9);
            isChange("fill(1) of nothing", x -> x.fill(1), 0, 0, NONE, NONE, 9);
            isChange("fill(64) without readings", x -> x.fill(64), 0);
        });
        s.says("`longest`: the greatest number of readings of such a row, 1 to 64", () -> {
            for (int longest = 1; longest <= 64; longest++) {
                StabilityAnalyzer x = of(5);
                x.skip(30);
                x.add(5);
                s.due("a gap of 30, longest " + longest, x.fill(longest), longest < 30 ? 0 : 30);
            }
            s.due("a row of missing readings alone", gap(64).fill(64), 0);
        });
        s.says("Returns how many readings are filled", () -> {
            s.due("none", of(1, 2).fill(64), 0);
            s.due("three in two rows", of(0, NONE, 0, NONE, NONE, 0).fill(2), 3);
            StabilityAnalyzer x = gap(64);
            x.set(0, -99999);
            x.set(63, 99999);
            s.due("the most", x.fill(62), 62);
            s.due("gaps left", x.told(4), 0);
        });
        s.says("BAD if longest is out of range.", () -> s.each("fill", of(0, NONE, 0)::fill, BAD, 0, -1, 65, LEAST, MOST, NONE));
    }

    private void thin() {
        s.part("Promise 11");
        s.says("only the readings whose numbers are first, first + every, first + 2 * every, and so on, stay", () -> {
            StabilityAnalyzer x = of(10, 11, NONE, 13, 14, 15, 16);
            s.due("up to the last one", x.thin(3, 0), 3);
            s.readings("0, 3, 6", x, 10, 13, 16);
            x.undo();
            x.thin(2, 1);
            s.readings("1, 3, 5", x, 11, 13, 15);
            x.undo();
            x.thin(4, 2);
            s.readings("2 (missing) and 6", x, NONE, 16);
            s.due("first behind the last one", of(1, 2, 3).thin(4, 3), 0);
            s.due("first is the last one", of(1, 2, 3).thin(4, 2), 1);
        });
        s.says("This is a change.", () -> {
            isChange("thin(2, 1)", x -> x.thin(2, 1), 1, 0, NONE, 9);
            isChange("thin(1, 0) of all", x -> x.thin(1, 0), 3, 0, NONE, 9);
            isChange("thin(2, 1) of nothing", x -> x.thin(2, 1), 0);
        });
        s.says("`every`: 1 to 16", () -> {
            for (int every = 1; every <= 16; every++) {
                s.due("thin(" + every + ", 0) of 64", gap(64).thin(every, 0), (64 + every - 1) / every);
            }
        });
        s.says("`first`: 0 to every - 1", () -> {
            for (int every = 1; every <= 16; every++) {
                s.due("thin(" + every + ", every - 1) of 64", gap(64).thin(every, every - 1), 64 / every);
                s.due("thin(" + every + ", every) of 64", gap(64).thin(every, every), BAD);
                s.due("thin(" + every + ", -1) of 64", gap(64).thin(every, -1), BAD);
            }
        });
        s.says("BAD if an argument is out of range.", () -> {
            s.each("every", every -> of(1, 2).thin(every, 0), BAD, 0, -1, 17, LEAST, MOST, NONE);
            s.each("first", first -> of(1, 2).thin(2, first), BAD, 2, 3, -1, LEAST, MOST, NONE);
            s.due("both", of(1, 2).thin(0, 0), BAD);
            s.due("without readings", empty().thin(17, 0), BAD);
        });
    }

    private void undo() {
        s.part("Promise 12");
        s.says("Undoes a change, as described above.", () -> {
            StabilityAnalyzer x = of(1, NONE, 3);
            x.thin(2, 0);
            x.set(0, 9);
            x.undo();
            s.readings("set undone", x, 1, 3);
            x.undo();
            s.readings("thin undone", x, 1, NONE, 3);
        });
        s.says("Returns how many changes can still be undone", () -> {
            StabilityAnalyzer x = empty();
            for (int k = 0; k < 12; k++) {
                x.add(k);
            }
            for (int left = 7; left >= 0; left--) {
                s.due("left", x.undo(), left);
                s.due("told of them", x.told(8), left);
            }
        });
        s.says("STATE if there is none.", () -> {
            s.due("a new one", empty().undo(), STATE);
            StabilityAnalyzer x = of(1);
            s.due("the only one", x.undo(), 0);
            s.due("behind the only one", x.undo(), STATE);
            s.due("again", x.undo(), STATE);
            x.add(2);
            s.due("a new change", x.undo(), 0);
        });
    }
}
