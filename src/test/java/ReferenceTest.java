/** Long runs of made-up calls, the same at each start, answered by the program and by the reference alike. */
public final class ReferenceTest {
    private static final int RUNS = 1500;
    private static final int CALLS = 512;
    /** A text of four items and a byte, with the calls around it, is the longest step. */
    private static final int MOST_AT_ONCE = 60;
    private static final int MOST_TOLD = 20;
    private static final int NONE = StabilityAnalyzer.NONE;
    private static final int[] EXTREMES = {Integer.MIN_VALUE, Integer.MAX_VALUE, -1, 0, 64, 65, 100000, -100000, NONE, 31, 32};
    private static final String BYTES = "0123456789**;;;??-- x/:";

    private final Checks checks = new Checks();
    private long seed;
    private StabilityAnalyzer x;
    private Reference y;
    private int run;
    private int calls;

    public static void main(String[] args) {
        ReferenceTest test = new ReferenceTest();
        for (int run = 0; run < RUNS && test.checks.wrong() < MOST_TOLD; run++) {
            test.runAll(run);
        }
        test.checks.close();
    }

    private int any(int bound) {
        seed = seed * 6364136223846793005L + 1442695040888963407L;
        return (int) ((seed >>> 33) % bound);
    }

    /** Mostly from least to greatest, now and then just outside or far off. */
    private int arg(int least, int greatest) {
        int kind = any(60);
        if (kind == 0) {
            return EXTREMES[any(EXTREMES.length)];
        }
        if (kind == 1) {
            return any(2) == 0 ? least - 1 : greatest + 1;
        }
        if (kind == 2) {
            return any(2) == 0 ? least : greatest;
        }
        return least + any(greatest - least + 1);
    }

    private int phase() {
        int[] spans = {1, 2, 5, 60, 3000, 99999};
        int span = spans[run % spans.length];
        if (run % 7 == 6) {
            return any(8) == 0 ? arg(-99999, 99999) : any(2) == 0 ? -99999 : 99999;
        }
        return arg(-span, span);
    }

    private int m() {
        return any(3) == 0 ? arg(1, 31) : arg(1, 6);
    }

    private void due(String call, long got, long want) {
        calls++;
        checks.due("run " + run + ", call " + calls + ": " + call, got, want);
    }

    private void runAll(int number) {
        run = number;
        seed = number * 1000003L + 17;
        x = new StabilityAnalyzer();
        y = new Reference();
        calls = 0;
        while (calls < CALLS - MOST_AT_ONCE && checks.wrong() < MOST_TOLD) {
            int kind = any(100);
            if (kind < 45 - number % 3 * 15) {
                add();
            } else if (kind < 70) {
                asks(any(13));
            } else if (kind < 92) {
                changes(any(10));
            } else {
                types();
            }
        }
    }

    private void add() {
        if (any(7) == 0) {
            int n = arg(1, any(3) == 0 ? 40 : 3);
            due("skip(" + n + ")", x.skip(n), y.skip(n));
        } else {
            int p = phase();
            due("add(" + p + ")", x.add(p), y.add(p));
        }
    }

    private void changes(int kind) {
        int a = arg(0, 63);
        int b = arg(0, 63);
        switch (kind) {
            case 0 -> due("undo()", x.undo(), y.undo());
            case 1 -> {
                int p = any(3) == 0 ? NONE : phase();
                due("set(" + a + ", " + p + ")", x.set(a, p), y.set(a, p));
            }
            case 2 -> due("removeLine(" + a + ", " + b + ")", x.removeLine(a, b), y.removeLine(a, b));
            case 3 -> {
                int slope = any(2) == 0 ? arg(-9999, 9999) : arg(-3, 3);
                int offset = any(2) == 0 ? arg(-99999, 99999) : arg(-3, 3);
                due("addLine(" + slope + ", " + offset + ")", x.addLine(slope, offset), y.addLine(slope, offset));
            }
            case 4 -> due("removeDrift()", x.removeDrift(), y.removeDrift());
            case 5 -> {
                int limit = limit();
                due("removeOutliers(" + limit + ")", x.removeOutliers(limit), y.removeOutliers(limit));
            }
            case 6 -> {
                int longest = any(2) == 0 ? arg(1, 64) : arg(1, 3);
                due("fill(" + longest + ")", x.fill(longest), y.fill(longest));
            }
            case 7 -> {
                int every = any(3) == 0 ? arg(1, 16) : 1;
                int first = arg(0, Math.max(0, Math.min(15, every - 1)));
                due("thin(" + every + ", " + first + ")", x.thin(every, first), y.thin(every, first));
            }
            case 8 -> {
                int i = arg(0, 1);
                due("keep(" + i + ")", x.keep(i), y.keep(i));
            }
            default -> rare();
        }
        same();
    }

    private void rare() {
        if (any(6) == 0) {
            due("clear()", x.clear(), y.clear());
        } else {
            int i = arg(0, 1);
            due("back(" + i + ")", x.back(i), y.back(i));
        }
    }

    private int limit() {
        int[] spans = {1, 3, 50, 5000, 99999};
        return arg(0, spans[any(spans.length)]);
    }

    private void same() {
        int i = arg(0, 63);
        due("reading(" + i + ")", x.reading(i), y.reading(i));
    }

    private void asks(int kind) {
        int m = m();
        int which = arg(0, 3);
        int order = arg(2, 4);
        switch (kind) {
            case 0 -> {
                int what = arg(0, 8);
                due("told(" + what + ")", x.told(what), y.told(what));
            }
            case 1 -> {
                int i = arg(0, 63);
                due("difference(" + order + ", " + m + ", " + i + ")", x.difference(order, m, i), y.difference(order, m, i));
            }
            case 2 -> due("count(" + order + ", " + m + ")", x.count(order, m), y.count(order, m));
            case 3, 4, 5 -> {
                int part = arg(0, 1);
                due("variance(" + which + ", " + m + ", " + part + ")", x.variance(which, m, part), y.variance(which, m, part));
            }
            case 6 -> due("deviation(" + which + ", " + m + ")", x.deviation(which, m), y.deviation(which, m));
            case 7 -> {
                int other = m();
                due("compare(" + which + ", " + m + ", " + other + ")", x.compare(which, m, other), y.compare(which, m, other));
            }
            case 8 -> due("best(" + which + ")", x.best(which), y.best(which));
            case 9 -> due("noise(" + m + ")", x.noise(m), y.noise(m));
            case 10 -> due("freedom(" + m + ")", x.freedom(m), y.freedom(m));
            case 11 -> {
                int limit = limit();
                due("outliers(" + limit + ")", x.outliers(limit), y.outliers(limit));
            }
            default -> same();
        }
    }

    /** Writes a text that is mostly right, and loads it. */
    private void types() {
        if (any(2) == 0) {
            due("wipe()", x.wipe(), y.wipe());
        }
        StringBuilder text = new StringBuilder();
        int items = any(5);
        for (int k = 0; k < items; k++) {
            text.append(any(4) == 0 ? "?" : String.valueOf(Math.max(-99999, Math.min(99999, phase()))));
            if (any(3) == 0) {
                text.append('*').append(any(8) == 0 ? arg(0, 70) : 1 + any(20));
            }
            text.append(';');
        }
        if (any(3) == 0 && text.length() > 0) {
            text.setCharAt(any(text.length()), BYTES.charAt(any(BYTES.length())));
        }
        if (any(6) == 0) {
            text.append(BYTES.charAt(any(BYTES.length())));
        }
        for (int k = 0; k < text.length(); k++) {
            int code = any(300) == 0 ? arg(32, 126) : text.charAt(k);
            due("write(" + code + ")", x.write(code), y.write(code));
        }
        due("load()", x.load(), y.load());
        int what = arg(0, 1);
        due("fault(" + what + ")", x.fault(what), y.fault(what));
        due("told(0)", x.told(0), y.told(0));
    }
}
