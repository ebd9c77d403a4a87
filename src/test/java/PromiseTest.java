/** Every promise of the document in turn: ordinary inputs, the edges and wrong inputs, worked out by hand. */
public final class PromiseTest {
    private static final int NONE = -1000000001;
    private static final int BAD = -1000000002;
    private static final int STATE = -1000000003;
    private static final int FULL = -1000000004;
    private static final int LARGE = -1000000005;
    private static final int LEAST = Integer.MIN_VALUE;
    private static final int MOST = Integer.MAX_VALUE;

    private static final Checks CHECKS = new Checks();

    public static void main(String[] args) {
        constants();
        newObject();
        add();
        skip();
        set();
        clear();
        removeLine();
        addLine();
        removeDrift();
        removeOutliers();
        fill();
        thin();
        undo();
        told();
        reading();
        difference();
        count();
        variance();
        deviation();
        compare();
        best();
        noise();
        freedom();
        outliers();
        write();
        wipe();
        load();
        fault();
        keepAndBack();
        CHECKS.close();
    }

    private static void due(String what, long got, long want) {
        CHECKS.due(what, got, want);
    }

    private static StabilityAnalyzer of(int... phases) {
        return Checks.of(phases);
    }

    private static StabilityAnalyzer full() {
        StabilityAnalyzer x = new StabilityAnalyzer();
        x.skip(64);
        return x;
    }

    /** What was refused must have left the readings and the history as they were. */
    private static void untouched(String what, StabilityAnalyzer x, int changes, int... phases) {
        CHECKS.readings(what, x, phases);
        due(what + ": changes", x.told(8), changes);
    }

    private static void constants() {
        due("NONE", StabilityAnalyzer.NONE, NONE);
        due("BAD", StabilityAnalyzer.BAD, BAD);
        due("STATE", StabilityAnalyzer.STATE, STATE);
        due("FULL", StabilityAnalyzer.FULL, FULL);
        due("LARGE", StabilityAnalyzer.LARGE, LARGE);
    }

    private static void newObject() {
        StabilityAnalyzer x = new StabilityAnalyzer();
        int[] told = {0, 0, NONE, NONE, 0, 0, 0, 0, 0};
        for (int what = 0; what < told.length; what++) {
            due("new: told(" + what + ")", x.told(what), told[what]);
        }
        due("new: fault(0)", x.fault(0), NONE);
        due("new: fault(1)", x.fault(1), NONE);
        due("new: back(0)", x.back(0), STATE);
        due("new: back(1)", x.back(1), STATE);
        due("new: undo", x.undo(), STATE);
        due("new: reading(0)", x.reading(0), BAD);
        due("new: wipe", x.wipe(), 0);
        of(1, 2).keep(0);
        due("new: nothing is shared between objects", new StabilityAnalyzer().back(0), STATE);
    }

    private static void add() {
        StabilityAnalyzer x = new StabilityAnalyzer();
        due("add(99999)", x.add(99999), 0);
        due("add(-99999)", x.add(-99999), 1);
        for (int wrong : new int[] {100000, -100000, NONE, LEAST, MOST}) {
            due("add(" + wrong + ")", x.add(wrong), BAD);
        }
        untouched("add", x, 2, 99999, -99999);
        x.undo();
        untouched("add undone", x, 1, 99999);
        StabilityAnalyzer y = full();
        due("add to 64", y.add(0), FULL);
        due("add to 64, out of range", y.add(100000), BAD);
        due("add to 64: changes", y.told(8), 1);
        y.undo();
        y.skip(63);
        due("add to 63", y.add(7), 63);
        due("add to 63: N", y.told(0), 64);
    }

    private static void skip() {
        StabilityAnalyzer x = of(5);
        due("skip(1)", x.skip(1), 2);
        due("skip(3)", x.skip(3), 5);
        untouched("skip", x, 3, 5, NONE, NONE, NONE, NONE);
        for (int wrong : new int[] {0, -1, 65, LEAST, MOST}) {
            due("skip(" + wrong + ")", x.skip(wrong), BAD);
        }
        due("skip over 64", x.skip(60), FULL);
        due("skip(64) of 5", x.skip(64), FULL);
        untouched("skip refused", x, 3, 5, NONE, NONE, NONE, NONE);
        due("skip to 64", x.skip(59), 64);
        due("skip at 64", x.skip(1), FULL);
        due("skip at 64, out of range", x.skip(65), BAD);
        due("skip undone", x.undo(), 3);
        due("skip undone: N", x.told(0), 5);
        due("skip(64)", new StabilityAnalyzer().skip(64), 64);
    }

    private static void set() {
        StabilityAnalyzer x = of(5, NONE);
        due("set(0, 7)", x.set(0, 7), 5);
        due("set(1, -99999)", x.set(1, -99999), NONE);
        due("set(1, 99999)", x.set(1, 99999), -99999);
        due("set(0, NONE)", x.set(0, NONE), 7);
        due("set(0, NONE) again", x.set(0, NONE), NONE);
        untouched("set", x, 7, NONE, 99999);
        due("set(-1, 0)", x.set(-1, 0), BAD);
        due("set(2, 0)", x.set(2, 0), BAD);
        due("set(MOST, 0)", x.set(MOST, 0), BAD);
        due("set(LEAST, 0)", x.set(LEAST, 0), BAD);
        for (int wrong : new int[] {100000, -100000, BAD, STATE, FULL, LARGE, NONE + 1, LEAST, MOST}) {
            due("set(0, " + wrong + ")", x.set(0, wrong), BAD);
        }
        untouched("set refused", x, 7, NONE, 99999);
        x.undo();
        x.undo();
        untouched("set undone", x, 5, 7, 99999);
    }

    private static void clear() {
        StabilityAnalyzer x = of(5, NONE, 6);
        due("clear", x.clear(), 3);
        untouched("clear", x, 4);
        due("clear of nothing", x.clear(), 0);
        due("clear of nothing: changes", x.told(8), 5);
        x.undo();
        x.undo();
        untouched("clear undone", x, 3, 5, NONE, 6);
    }

    private static void removeLine() {
        StabilityAnalyzer x = of(0, 10, 3);
        due("removeLine(0, 2)", x.removeLine(0, 2), 2);
        untouched("removeLine, 3 / 2", x, 4, 0, 9, 0);
        x.undo();
        untouched("removeLine undone", x, 3, 0, 10, 3);
        x = of(0, 10, -3);
        due("removeLine(0, 2)", x.removeLine(0, 2), 2);
        CHECKS.readings("removeLine, -3 / 2", x, 0, 12, 0);
        x = of(10, 0, NONE, 1, 1);
        due("removeLine(1, 3)", x.removeLine(1, 3), 3);
        CHECKS.readings("removeLine ahead and behind", x, 11, 0, NONE, 0, 0);
        due("removeLine of a line at 0", x.removeLine(1, 3), 0);
        due("removeLine of a line at 0: changes", x.told(8), 7);
        x = of(4, 5, NONE);
        int[][] wrong = {{0, 0}, {1, 0}, {-1, 1}, {0, 3}, {2, 2}, {2, 1}, {LEAST, 1}, {0, MOST}, {MOST, LEAST}};
        for (int[] pair : wrong) {
            due("removeLine(" + pair[0] + ", " + pair[1] + ")", x.removeLine(pair[0], pair[1]), BAD);
        }
        due("removeLine with a missing end", x.removeLine(0, 2), STATE);
        due("removeLine with a missing start", of(NONE, 1).removeLine(0, 1), STATE);
        untouched("removeLine refused", x, 3, 4, 5, NONE);
        x = of(99999, 0, 1);
        due("removeLine over the greatest", x.removeLine(1, 2), LARGE);
        untouched("removeLine over the greatest", x, 3, 99999, 0, 1);
        x = of(99998, 0, 1);
        due("removeLine to the greatest", x.removeLine(1, 2), 2);
        CHECKS.readings("removeLine to the greatest", x, 99999, 0, 0);
        due("removeLine under the least", of(-99999, 0, -1).removeLine(1, 2), LARGE);
        due("removeLine to the least", of(-99998, 0, -1).removeLine(1, 2), 2);
        x = of(99999, -99999);
        x.skip(61);
        x.add(0);
        due("removeLine far off", x.removeLine(0, 1), LARGE);
        x.set(63, NONE);
        due("removeLine far off, missing there", x.removeLine(0, 1), 2);
    }

    private static void addLine() {
        StabilityAnalyzer x = of(1, NONE, 3, 4);
        due("addLine(2, -1)", x.addLine(2, -1), 3);
        untouched("addLine", x, 5, 0, NONE, 6, 9);
        due("addLine(-3, 0)", x.addLine(-3, 0), 2);
        CHECKS.readings("addLine, nothing at 0", x, 0, NONE, 0, 0);
        due("addLine(0, 0)", x.addLine(0, 0), 0);
        due("addLine(0, 0): changes", x.told(8), 7);
        x.undo();
        x.undo();
        untouched("addLine undone", x, 5, 0, NONE, 6, 9);
        int[][] wrong = {{10000, 0}, {-10000, 0}, {0, 100000}, {0, -100000}, {LEAST, 0}, {MOST, 0}, {0, LEAST}, {0, MOST}};
        for (int[] pair : wrong) {
            due("addLine(" + pair[0] + ", " + pair[1] + ")", x.addLine(pair[0], pair[1]), BAD);
        }
        due("addLine over the greatest", x.addLine(0, 99991), LARGE);
        due("addLine under the least", x.addLine(-9999, -90000), LARGE);
        untouched("addLine refused", x, 5, 0, NONE, 6, 9);
        due("addLine to the greatest", x.addLine(0, 99990), 3);
        x = of(0, 0);
        due("addLine at the bounds", x.addLine(9999, -99999), 2);
        CHECKS.readings("addLine at the bounds", x, -99999, -90000);
        due("addLine without readings", new StabilityAnalyzer().addLine(-9999, 99999), 0);
        x = of(0);
        x.skip(63);
        due("addLine where all far ones are missing", x.addLine(9999, 1), 1);
    }

    private static void removeDrift() {
        StabilityAnalyzer x = of(0, 1, 4, 9, 16);
        due("removeDrift", x.removeDrift(), 2);
        untouched("removeDrift", x, 6, 0, 1, 2, 3, 4);
        due("removeDrift of none", x.removeDrift(), 0);
        due("removeDrift of none: changes", x.told(8), 7);
        x.undo();
        x.undo();
        untouched("removeDrift undone", x, 5, 0, 1, 4, 9, 16);
        x = of(0, 0, 0, -1);
        due("removeDrift, -1 / 2", x.removeDrift(), -1);
        CHECKS.readings("removeDrift, -1 / 2", x, 0, 0, 1, 2);
        x = of(0, 0, 0, 1);
        due("removeDrift, 1 / 2", x.removeDrift(), 0);
        x = of(NONE, 0, 0, 1, NONE, 5);
        due("removeDrift with gaps", x.removeDrift(), 1);
        CHECKS.readings("removeDrift with gaps", x, NONE, 0, -1, -2, NONE, -5);
        due("removeDrift of two", of(1, 2).removeDrift(), STATE);
        x = of(0, 1, NONE, 3, 4, NONE, 6, 7);
        due("removeDrift without differences", x.removeDrift(), STATE);
        untouched("removeDrift without differences", x, 8, 0, 1, NONE, 3, 4, NONE, 6, 7);
        x = of(99999, -99999, 99999);
        due("removeDrift under the least", x.removeDrift(), LARGE);
        untouched("removeDrift under the least", x, 3, 99999, -99999, 99999);
        due("removeDrift over the greatest", of(-99999, 99999, -99999).removeDrift(), LARGE);
        x = of(99999, -99999, 99999, NONE);
        x.skip(59);
        x.add(0);
        due("removeDrift far off", x.removeDrift(), LARGE);
    }

    private static void removeOutliers() {
        StabilityAnalyzer x = of(0, 10, 0, 0);
        due("removeOutliers(10)", x.removeOutliers(10), 0);
        untouched("removeOutliers(10)", x, 5, 0, 10, 0, 0);
        due("removeOutliers(9)", x.removeOutliers(9), 1);
        untouched("removeOutliers(9)", x, 6, 0, NONE, 0, 0);
        x.undo();
        untouched("removeOutliers undone", x, 5, 0, 10, 0, 0);
        x = of(0, 10, -10, 0);
        due("removeOutliers(15)", x.removeOutliers(15), 0);
        due("removeOutliers(14), found first", x.removeOutliers(14), 2);
        CHECKS.readings("removeOutliers(14)", x, 0, NONE, NONE, 0);
        x = of(0, NONE, 99999, 0, -99999);
        due("removeOutliers(0) at gaps and ends", x.removeOutliers(0), 0);
        due("removeOutliers(-1)", x.removeOutliers(-1), BAD);
        due("removeOutliers(100000)", x.removeOutliers(100000), BAD);
        due("removeOutliers(LEAST)", x.removeOutliers(LEAST), BAD);
        due("removeOutliers(MOST)", x.removeOutliers(MOST), BAD);
        untouched("removeOutliers refused", x, 6, 0, NONE, 99999, 0, -99999);
        due("removeOutliers(99999)", of(-99999, 99999, -99999).removeOutliers(99999), 1);
        due("removeOutliers of nothing", new StabilityAnalyzer().removeOutliers(0), 0);
    }

    private static void fill() {
        StabilityAnalyzer x = of(NONE, 0, NONE, 1, NONE, NONE, -2, NONE);
        due("fill(1)", x.fill(1), 1);
        untouched("fill(1)", x, 8, NONE, 0, 0, 1, NONE, NONE, -2, NONE);
        due("fill(64)", x.fill(64), 2);
        CHECKS.readings("fill(64)", x, NONE, 0, 0, 1, 0, -1, -2, NONE);
        due("fill of nothing", x.fill(64), 0);
        x.undo();
        x.undo();
        CHECKS.readings("fill undone", x, NONE, 0, 0, 1, NONE, NONE, -2, NONE);
        due("fill(0)", x.fill(0), BAD);
        due("fill(-1)", x.fill(-1), BAD);
        due("fill(65)", x.fill(65), BAD);
        due("fill(MOST)", x.fill(MOST), BAD);
        due("fill(LEAST)", x.fill(LEAST), BAD);
        CHECKS.readings("fill refused", x, NONE, 0, 0, 1, NONE, NONE, -2, NONE);
        x = of(0, NONE, -1, NONE, NONE, 0, NONE, NONE, NONE, 2);
        due("fill(2)", x.fill(2), 3);
        CHECKS.readings("fill(2)", x, 0, -1, -1, -1, -1, 0, NONE, NONE, NONE, 2);
        due("fill(3)", x.fill(3), 3);
        CHECKS.readings("fill(3)", x, 0, -1, -1, -1, -1, 0, 0, 1, 1, 2);
        due("fill of missing ones only", full().fill(64), 0);
        x = of(99999);
        x.skip(62);
        x.add(-99999);
        due("fill(61) of a gap of 62", x.fill(61), 0);
        due("fill(62) of a gap of 62", x.fill(62), 62);
        due("fill(62): reading 1", x.reading(1), 96824);
        due("fill(62): reading 62", x.reading(62), -96825);
    }

    private static void thin() {
        StabilityAnalyzer x = of(0, 1, NONE, 3, 4, 5, NONE);
        due("thin(1, 0)", x.thin(1, 0), 7);
        CHECKS.readings("thin(1, 0)", x, 0, 1, NONE, 3, 4, 5, NONE);
        due("thin(2, 0)", x.thin(2, 0), 4);
        CHECKS.readings("thin(2, 0)", x, 0, NONE, 4, NONE);
        x.undo();
        due("thin(2, 1)", x.thin(2, 1), 3);
        CHECKS.readings("thin(2, 1)", x, 1, 3, 5);
        x.undo();
        due("thin(3, 2)", x.thin(3, 2), 2);
        CHECKS.readings("thin(3, 2)", x, NONE, 5);
        due("thin(16, 15) of two", x.thin(16, 15), 0);
        CHECKS.readings("thin(16, 15) of two", x);
        x.undo();
        int[][] wrong = {{0, 0}, {-1, 0}, {17, 0}, {2, 2}, {2, -1}, {16, 16}, {LEAST, 0}, {MOST, 0}, {2, LEAST}, {2, MOST}};
        for (int[] pair : wrong) {
            due("thin(" + pair[0] + ", " + pair[1] + ")", x.thin(pair[0], pair[1]), BAD);
        }
        CHECKS.readings("thin refused", x, NONE, 5);
        StabilityAnalyzer y = new StabilityAnalyzer();
        due("thin of nothing", y.thin(16, 0), 0);
        due("thin of nothing: changes", y.told(8), 1);
        due("thin(16, 15) of 64", full().thin(16, 15), 4);
    }

    private static void undo() {
        StabilityAnalyzer x = new StabilityAnalyzer();
        due("undo of nothing", x.undo(), STATE);
        for (int i = 0; i < 9; i++) {
            x.add(i);
            due("changes after " + (i + 1), x.told(8), Math.min(8, i + 1));
        }
        x.keep(0);
        x.write('5');
        x.load();
        for (int left = 7; left >= 0; left--) {
            due("undo, left " + left, x.undo(), left);
            due("undo: N at " + left, x.told(0), left + 1);
        }
        due("undo of the ninth", x.undo(), STATE);
        CHECKS.readings("undo to the oldest", x, 0);
        due("undo leaves the text", x.told(7), 1);
        due("undo leaves the fault", x.fault(1), 1);
        due("undo leaves the image", x.back(0), 9);
        due("undo of back", x.undo(), 0);
        for (int i = 0; i < 30; i++) {
            x.set(0, i);
        }
        x.undo();
        due("undo in a long history", x.reading(0), 28);
        x.set(0, 50);
        x.undo();
        x.undo();
        due("undo after an undone change", x.reading(0), 27);
        due("undo is no change", x.told(8), 6);
        for (int left = 5; left >= 0; left--) {
            due("undo to the end, left " + left, x.undo(), left);
            due("undo to the end: reading", x.reading(0), 21 + left);
        }
        due("undo behind the end", x.undo(), STATE);
    }

    private static void told() {
        StabilityAnalyzer x = of(NONE, 5, NONE, NONE, -7, 3, NONE);
        Checks.type(x, "5*");
        int[] want = {7, 3, -7, 5, 3, 2, 0, 2, 7};
        for (int what = 0; what < want.length; what++) {
            due("told(" + what + ")", x.told(what), want[what]);
        }
        for (int wrong : new int[] {-1, 9, LEAST, MOST}) {
            due("told(" + wrong + ")", x.told(wrong), BAD);
        }
        x.load();
        due("told(7) after load", x.told(7), 2);
        x = of(1, NONE, 2, NONE, NONE, 4);
        due("told(6) with a gap", x.told(6), 0);
        x.set(4, 9);
        due("told(6) over a gap", x.told(6), 2);
        x = full();
        due("told(4) of missing ones", x.told(4), 1);
        due("told(5) of missing ones", x.told(5), 64);
        due("told(3) of missing ones", x.told(3), NONE);
        x.set(0, 0);
        x.set(31, 0);
        x.set(62, 0);
        due("told(6) at the greatest", x.told(6), 31);
        due("told(4) beside single ones", x.told(4), 3);
        due("told(5) beside single ones", x.told(5), 30);
        due("told(2) of zeros", x.told(2), 0);
        x = of(-5, -3, -4);
        due("told(2) below 0", x.told(2), -5);
        due("told(3) below 0", x.told(3), -3);
        due("told(1) without gaps", x.told(1), 3);
        due("told(6) of three", x.told(6), 1);
        due("told(3) at the start", of(9, 1).told(3), 9);
        due("told(4) without gaps", x.told(4), 0);
        due("told(5) without gaps", x.told(5), 0);
    }

    private static void reading() {
        StabilityAnalyzer x = of(5, NONE, -6);
        CHECKS.readings("reading", x, 5, NONE, -6);
        for (int wrong : new int[] {-1, 3, 64, LEAST, MOST}) {
            due("reading(" + wrong + ")", x.reading(wrong), BAD);
        }
        x.clear();
        due("reading of what was cleared", x.reading(0), BAD);
    }

    private static void difference() {
        StabilityAnalyzer x = of(1, 10, 100, 1000, 10000, NONE, 7, 70);
        due("second, m 1", x.difference(2, 1, 0), 81);
        due("second, m 2", x.difference(2, 2, 0), 9801);
        due("second, m 3", x.difference(2, 3, 0), 1 - 2000 + 7);
        due("second over a missing one", x.difference(2, 1, 3), NONE);
        due("second that begins at a missing one", x.difference(2, 1, 5), NONE);
        due("second beyond the end", x.difference(2, 1, 6), NONE);
        due("third, m 1", x.difference(3, 1, 0), 1000 - 300 + 30 - 1);
        due("third, m 1, at 1", x.difference(3, 1, 1), 10000 - 3000 + 300 - 10);
        due("third, m 2", x.difference(3, 2, 0), 7 - 30000 + 300 - 1);
        due("third with a missing one", x.difference(3, 1, 2), NONE);
        due("mean, m 1", x.difference(4, 1, 2), 10000 - 2000 + 100);
        due("mean, m 2", x.difference(4, 2, 0), NONE);
        x.set(5, 3);
        due("mean, m 2, all there", x.difference(4, 2, 0), 9801 + (3 - 2000 + 10));
        due("mean, m 2, up to the last", x.difference(4, 2, 2), (7 - 20000 + 100) + (70 - 6 + 1000));
        due("mean, m 2, beyond the end", x.difference(4, 2, 3), NONE);
        due("at the end", x.difference(2, 1, 8), NONE);
        due("far off", x.difference(2, 31, MOST), NONE);
        due("far off, third", x.difference(3, 31, MOST), NONE);
        due("far off, mean", x.difference(4, 31, MOST), NONE);
        int[][] wrong = {{1, 1, 0}, {5, 1, 0}, {2, 0, 0}, {2, 32, 0}, {2, 1, -1}, {LEAST, 1, 0}, {MOST, 1, 0},
            {3, LEAST, 0}, {4, MOST, 0}, {2, 1, LEAST}, {0, 0, -1}};
        for (int[] w : wrong) {
            due("difference(" + w[0] + ", " + w[1] + ", " + w[2] + ")", x.difference(w[0], w[1], w[2]), BAD);
        }
        due("without readings", new StabilityAnalyzer().difference(4, 31, 0), NONE);
        x = of(99999, -99999, 99999, -99999);
        due("greatest second", x.difference(2, 1, 0), 399996);
        due("least third", x.difference(3, 1, 0), -799992);
    }

    private static void count() {
        StabilityAnalyzer x = of(1, 2, 3, 4, 5, 6, 7);
        due("count(2, 1)", x.count(2, 1), 5);
        due("count(2, 3)", x.count(2, 3), 1);
        due("count(2, 4)", x.count(2, 4), 0);
        due("count(3, 1)", x.count(3, 1), 4);
        due("count(3, 2)", x.count(3, 2), 1);
        due("count(4, 1)", x.count(4, 1), 5);
        due("count(4, 2)", x.count(4, 2), 2);
        due("count(4, 3)", x.count(4, 3), 0);
        x.set(3, NONE);
        due("count(2, 1) with a gap", x.count(2, 1), 2);
        due("count(2, 2) with a gap", x.count(2, 2), 2);
        due("count(3, 2) with a gap", x.count(3, 2), 1);
        due("count(4, 2) with a gap", x.count(4, 2), 0);
        int[][] wrong = {{1, 1}, {5, 1}, {2, 0}, {2, 32}, {LEAST, 1}, {MOST, 1}, {3, LEAST}, {4, MOST}};
        for (int[] w : wrong) {
            due("count(" + w[0] + ", " + w[1] + ")", x.count(w[0], w[1]), BAD);
        }
        due("count without readings", new StabilityAnalyzer().count(2, 31), 0);
    }

    private static void varianceIs(StabilityAnalyzer x, int which, int m, long numerator, long denominator) {
        due("variance(" + which + ", " + m + ", 0)", x.variance(which, m, 0), numerator);
        due("variance(" + which + ", " + m + ", 1)", x.variance(which, m, 1), denominator);
    }

    private static void variance() {
        StabilityAnalyzer x = of(1, 0, 0, 0, 0, 0, 0);
        varianceIs(x, 0, 1, 1, 10);
        varianceIs(x, 0, 2, 1, 24);
        varianceIs(x, 0, 3, 1, 18);
        varianceIs(x, 0, 4, NONE, NONE);
        varianceIs(x, 1, 1, 1, 24);
        varianceIs(x, 1, 2, 1, 24);
        varianceIs(x, 1, 3, NONE, NONE);
        varianceIs(x, 2, 1, 1, 10);
        varianceIs(x, 2, 2, 1, 64);
        varianceIs(x, 2, 3, NONE, NONE);
        varianceIs(x, 3, 1, 1, 30);
        varianceIs(x, 3, 2, 1, 48);
        varianceIs(x, 3, 3, NONE, NONE);
        x = of(0, 0, 0, 0);
        varianceIs(x, 0, 1, 0, 1);
        varianceIs(x, 3, 1, 0, 1);
        x = of(6, 0, NONE, 0, 3, 0);
        varianceIs(x, 0, 1, 18, 1);
        varianceIs(x, 0, 2, 0, 1);
        varianceIs(x, 1, 1, NONE, NONE);
        x = of(99999, -99999, 99999, -99999);
        varianceIs(x, 0, 1, 79998400008L, 1);
        varianceIs(x, 1, 1, 106664533344L, 1);
        varianceIs(x, 3, 1, 26666133336L, 1);
        int[][] wrong = {{-1, 1, 0}, {4, 1, 0}, {0, 0, 0}, {0, 32, 0}, {0, 1, -1}, {0, 1, 2}, {LEAST, 1, 0},
            {MOST, 1, 0}, {0, LEAST, 0}, {0, MOST, 0}, {0, 1, LEAST}, {0, 1, MOST}, {3, 31, 2}};
        for (int[] w : wrong) {
            due("variance(" + w[0] + ", " + w[1] + ", " + w[2] + ")", x.variance(w[0], w[1], w[2]), BAD);
        }
    }

    private static void deviation() {
        StabilityAnalyzer x = of(1, 0, 0, 0, 0, 0, 0);
        due("deviation(0, 1)", x.deviation(0, 1), 316);
        due("deviation(0, 2)", x.deviation(0, 2), 204);
        due("deviation(1, 1)", x.deviation(1, 1), 204);
        due("deviation(2, 2)", x.deviation(2, 2), 125);
        due("deviation(3, 1)", x.deviation(3, 1), 182);
        due("deviation(0, 4)", x.deviation(0, 4), NONE);
        due("deviation of 0", of(0, 0, 0).deviation(0, 1), 0);
        due("deviation of a square", of(2, 0, 0, 0).deviation(0, 1), 1000);
        x = of(99999, -99999, 99999, -99999);
        due("greatest Allan deviation", x.deviation(0, 1), 282839884);
        due("greatest Hadamard deviation", x.deviation(1, 1), 326595366);
        int[][] wrong = {{-1, 1}, {4, 1}, {0, 0}, {0, 32}, {LEAST, 1}, {MOST, 1}, {0, LEAST}, {0, MOST}};
        for (int[] w : wrong) {
            due("deviation(" + w[0] + ", " + w[1] + ")", x.deviation(w[0], w[1]), BAD);
        }
    }

    private static void compare() {
        StabilityAnalyzer x = of(1, 0, 0, 0, 0, 0, 0);
        due("compare, greater", x.compare(0, 1, 2), 2);
        due("compare, less", x.compare(0, 2, 1), 1);
        due("compare, less by little", x.compare(0, 2, 3), 1);
        due("compare, equal", x.compare(1, 1, 2), 0);
        due("compare with itself", x.compare(2, 2, 2), 0);
        due("compare, time", x.compare(3, 1, 2), 2);
        due("compare, the first is none", x.compare(0, 4, 1), NONE);
        due("compare, the second is none", x.compare(0, 1, 4), NONE);
        due("compare, both are none", x.compare(0, 31, 30), NONE);
        int[][] wrong = {{-1, 1, 1}, {4, 1, 1}, {0, 0, 1}, {0, 32, 1}, {0, 1, 0}, {0, 1, 32}, {LEAST, 1, 1},
            {MOST, 1, 1}, {0, LEAST, 1}, {0, MOST, 1}, {0, 1, LEAST}, {0, 1, MOST}};
        for (int[] w : wrong) {
            due("compare(" + w[0] + ", " + w[1] + ", " + w[2] + ")", x.compare(w[0], w[1], w[2]), BAD);
        }
    }

    private static void best() {
        StabilityAnalyzer x = of(1, 0, 0, 0, 0, 0, 0);
        due("best(0)", x.best(0), 2);
        due("best(1), both equal", x.best(1), 1);
        due("best(2)", x.best(2), 2);
        due("best(3)", x.best(3), 2);
        due("best, all equal", of(0, 0, 0, 0, 0, 0, 0).best(0), 1);
        x = of(0, NONE, 5, NONE, 0);
        due("best over gaps", x.best(0), 2);
        due("best(1) of none", x.best(1), NONE);
        due("best without readings", new StabilityAnalyzer().best(3), NONE);
        x = full();
        x.set(0, 1);
        x.set(31, 2);
        x.set(62, 3);
        due("best at the greatest m", x.best(0), 31);
        for (int wrong : new int[] {-1, 4, LEAST, MOST}) {
            due("best(" + wrong + ")", x.best(wrong), BAD);
        }
    }

    private static void noise() {
        due("noise at 8 B = 3 A", of(0, 0, -1, -1, -1).noise(1), 0);
        due("noise at 4 B = 3 A", of(0, 0, 1, 2, 3).noise(1), 1);
        due("noise at 2 B = 3 A", of(0, 0, 1, 2, 4).noise(1), 2);
        due("noise at B = 3 A", of(0, 0, 0, 1, 2).noise(1), 3);
        due("noise above", of(0, 0, 1, 4, 8).noise(1), 4);
        due("noise at 8 B = 4 A", of(0, 0, -1, 0, 0).noise(1), 1);
        due("noise with B of 0", of(0, 1, 0, 1, 0).noise(1), 0);
        StabilityAnalyzer x = of(0, 0, 1, 2, 4);
        due("noise without B", x.noise(2), NONE);
        due("noise without A and B", x.noise(15), NONE);
        due("noise with A of 0", of(0, 1, 2, 3, 4).noise(1), NONE);
        due("noise without A", of(0, NONE, 1, NONE, 4).noise(1), NONE);
        for (int wrong : new int[] {0, -1, 16, LEAST, MOST}) {
            due("noise(" + wrong + ")", x.noise(wrong), BAD);
        }
        x = full();
        x.set(0, 0);
        x.set(15, 1);
        x.set(30, 0);
        x.set(60, 0);
        due("noise(15)", x.noise(15), 0);
    }

    private static void freedom() {
        due("freedom of kind 0", of(0, 0, -1, -1, -1).freedom(1), 2);
        due("freedom of kind 1", of(0, 0, 1, 2, 3).freedom(1), 3);
        due("freedom of kind 2", of(0, 0, 1, 2, 4).freedom(1), 1);
        due("freedom of kind 3", of(0, 0, 0, 1, 2).freedom(1), 3);
        due("freedom of kind 4", of(0, 0, 1, 4, 8).freedom(1), 3);
        StabilityAnalyzer x = of(0, NONE, 0, NONE, 1, NONE, NONE, NONE, 100);
        due("noise of one difference", x.noise(2), 4);
        due("freedom below 1", x.freedom(2), 1);
        // 1, 0, 0, .. has n = 60 and n = 58 at m = 2 and 4, A = 1 / 480 and B = 1 / 1856.
        x = of(1);
        for (int i = 1; i < 64; i++) {
            x.add(0);
        }
        due("noise of an impulse", x.noise(2), 0);
        due("freedom of an impulse", x.freedom(2), 61 * 64 / (2 * 62));
        // A step and a bend far off it: A = 10 / 480 and B = 52 / 1792 at m = 2 and 4.
        x = new StabilityAnalyzer();
        for (int t = 0; t < 64; t++) {
            x.add((t < 16 ? 0 : 1) + Math.max(0, t - 40));
        }
        due("noise of a step and a bend", x.noise(2), 2);
        due("freedom of a step and a bend", x.freedom(2), 5 * 60 * 60 / (4 * 66));
        due("freedom without a kind", of(0, 1, 2, 3, 4).freedom(1), NONE);
        due("freedom without readings", new StabilityAnalyzer().freedom(15), NONE);
        for (int wrong : new int[] {0, -1, 16, LEAST, MOST}) {
            due("freedom(" + wrong + ")", x.freedom(wrong), BAD);
        }
    }

    private static void outliers() {
        StabilityAnalyzer x = of(0, 10, 0, -10, 0, NONE, 50);
        due("outliers(9)", x.outliers(9), 2);
        due("outliers(10)", x.outliers(10), 0);
        due("outliers(0)", x.outliers(0), 2);
        due("outliers(99999)", x.outliers(99999), 0);
        due("outliers of an odd bend", of(0, 0, 21).outliers(10), 1);
        due("outliers of an odd bend below", of(0, 0, -21).outliers(10), 1);
        due("outliers of a straight line", of(1, 2, 3).outliers(0), 0);
        for (int wrong : new int[] {-1, 100000, LEAST, MOST}) {
            due("outliers(" + wrong + ")", x.outliers(wrong), BAD);
        }
        untouched("outliers", x, 7, 0, 10, 0, -10, 0, NONE, 50);
    }

    private static void write() {
        StabilityAnalyzer x = new StabilityAnalyzer();
        due("write(32)", x.write(32), 1);
        due("write(126)", x.write(126), 2);
        for (int wrong : new int[] {31, 127, 0, -1, LEAST, MOST}) {
            due("write(" + wrong + ")", x.write(wrong), BAD);
        }
        for (int n = 3; n <= 120; n++) {
            due("write to " + n, x.write('1'), n);
        }
        due("write to 121", x.write('1'), FULL);
        due("write to 121, out of range", x.write(127), BAD);
        due("write: bytes", x.told(7), 120);
        due("write is no change", x.told(8), 0);
    }

    private static void wipe() {
        StabilityAnalyzer x = of(1);
        Checks.type(x, "5;6");
        due("wipe", x.wipe(), 3);
        due("wipe: bytes", x.told(7), 0);
        due("wipe of nothing", x.wipe(), 0);
        due("wipe is no change", x.told(8), 1);
        x.write('7');
        x.write(';');
        due("what is written after wipe", x.load(), 1);
        CHECKS.readings("after wipe", x, 7);
    }

    private static void loads(String text, int... want) {
        StabilityAnalyzer x = of(1, 2);
        Checks.type(x, text);
        due("load of " + text, x.load(), want.length);
        untouched("load of " + text, x, 3, want);
        due("load of " + text + ": bytes", x.told(7), text.length());
        due("load of " + text + ": fault", x.fault(0), NONE);
        x.undo();
        untouched("load undone", x, 2, 1, 2);
    }

    private static int[] copies(int phase, int times) {
        int[] row = new int[times];
        for (int i = 0; i < times; i++) {
            row[i] = phase;
        }
        return row;
    }

    private static void load() {
        loads("");
        loads("5;", 5);
        loads("-5;?;0;", -5, NONE, 0);
        loads("00000;-0;-00012;99999;-99999;", 0, 0, -12, 99999, -99999);
        loads("7*3;?*2;-8*1;", 7, 7, 7, NONE, NONE, -8);
        loads("4*02;?*01;", 4, 4, NONE);
        loads("-3*64;", copies(-3, 64));
        loads("?*64;", copies(NONE, 64));
        loads("9*60;9*4;", copies(9, 64));
        StringBuilder items = new StringBuilder();
        for (int i = 0; i < 60; i++) {
            items.append("?;");
        }
        loads(items.toString(), copies(NONE, 60));
    }

    private static void faulty(String text, int kind, int place) {
        StabilityAnalyzer x = of(1, 2);
        Checks.type(x, text);
        due("load of " + text, x.load(), STATE);
        due("load of " + text + ": kind", x.fault(0), kind);
        due("load of " + text + ": place", x.fault(1), place);
        untouched("load of " + text, x, 2, 1, 2);
        due("load of " + text + ": bytes", x.told(7), text.length());
    }

    private static void fault() {
        String[] atZero = {";", "*", " ", "x", "/", ":", "*5;", " 5;", "+5;"};
        for (String text : atZero) {
            faulty(text, 1, 0);
        }
        String[] atOne = {"-", "-;", "--1;", "-?;", "-*2;", "5", "5 ;", "5-;", "5?;", "?", "?5;", "??;", "?-;"};
        for (String text : atOne) {
            faulty(text, 1, 1);
        }
        faulty("123456;", 1, 5);
        faulty("-123456;", 1, 6);
        faulty("-000001;", 1, 6);
        faulty("12345", 1, 5);
        faulty("1;;", 1, 2);
        faulty("1; 2;", 1, 2);
        faulty("1;-", 1, 3);
        faulty("?*", 1, 2);
        faulty("?*;", 1, 2);
        faulty("5*-1;", 1, 2);
        faulty("5**1;", 1, 2);
        faulty("5*?;", 1, 2);
        faulty("5*6", 1, 3);
        faulty("5*7x", 1, 3);
        faulty("5*2*3;", 1, 3);
        faulty("5*64", 1, 4);
        faulty("5*640;", 1, 4);
        faulty("5*010;", 1, 4);
        faulty("5*0;", 2, 2);
        faulty("5*0", 2, 2);
        faulty("5*0x", 2, 2);
        faulty("5*00;", 2, 2);
        faulty("5*00", 2, 2);
        faulty("?*65;", 2, 2);
        faulty("?*65", 2, 2);
        faulty("?*99x", 2, 2);
        faulty("?*650;", 2, 2);
        faulty("-12345*65;", 2, 7);
        faulty("1*64;?;", 3, 5);
        faulty("1*32;2*32;-3*1;", 3, 10);
        faulty("1*64;2*64;x", 3, 5);
        faulty("1*63;2*2;", 3, 5);
        faulty("1*64;2", 1, 6);
        faulty("1*64;2x", 1, 6);
        faulty("1*64;2*0;", 2, 7);
        faultIsKept();
    }

    private static void faultIsKept() {
        StabilityAnalyzer x = of(1);
        due("fault(-1)", x.fault(-1), BAD);
        due("fault(2)", x.fault(2), BAD);
        due("fault(LEAST)", x.fault(LEAST), BAD);
        due("fault(MOST)", x.fault(MOST), BAD);
        Checks.type(x, "12;x");
        x.load();
        Checks.type(x, "3;");
        due("load after a fault", x.load(), 1);
        x.undo();
        due("the latest fault stays: kind", x.fault(0), 1);
        due("the latest fault stays: place", x.fault(1), 3);
        Checks.type(x, "?*0");
        x.load();
        due("a later fault: kind", x.fault(0), 2);
        due("a later fault: place", x.fault(1), 2);
    }

    private static void keepAndBack() {
        StabilityAnalyzer x = of(1, NONE, 3);
        due("keep(0)", x.keep(0), 3);
        due("keep is no change", x.told(8), 3);
        for (int wrong : new int[] {-1, 2, LEAST, MOST}) {
            due("keep(" + wrong + ")", x.keep(wrong), BAD);
            due("back(" + wrong + ")", x.back(wrong), BAD);
        }
        due("back(1) of nothing", x.back(1), STATE);
        untouched("back refused", x, 3, 1, NONE, 3);
        x.set(0, 9);
        x.add(4);
        due("keep(1)", x.keep(1), 4);
        due("back(0)", x.back(0), 3);
        untouched("back(0)", x, 6, 1, NONE, 3);
        x.undo();
        untouched("back undone", x, 5, 9, NONE, 3, 4);
        x.clear();
        due("back(1)", x.back(1), 4);
        CHECKS.readings("back(1)", x, 9, NONE, 3, 4);
        x.set(0, 5);
        due("back(1) again", x.back(1), 4);
        CHECKS.readings("the image stays", x, 9, NONE, 3, 4);
        x.clear();
        due("keep(1) of nothing", x.keep(1), 0);
        x.add(8);
        due("back(1) to nothing", x.back(1), 0);
        CHECKS.readings("back(1) to nothing", x);
        due("back(0) beside it", x.back(0), 3);
    }
}
