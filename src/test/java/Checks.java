/** Counts the answers that are not the ones that are due, and builds analyzers for the tests. */
final class Checks {
    private int wrong = 0;
    private int made = 0;

    void due(String what, long got, long want) {
        made++;
        if (got != want) {
            wrong++;
            System.out.println(what + " answered " + got + ", due is " + want);
        }
    }

    void holds(String what, boolean truth) {
        made++;
        if (!truth) {
            wrong++;
            System.out.println("does not hold: " + what);
        }
    }

    int wrong() {
        return wrong;
    }

    int made() {
        return made;
    }

    void close() {
        System.out.println(made + " checks, " + wrong + " wrong");
        if (wrong != 0 || made == 0) {
            System.exit(1);
        }
    }

    /** An analyzer whose readings are these; NONE stands for a missing one. */
    static StabilityAnalyzer of(int... phases) {
        StabilityAnalyzer x = new StabilityAnalyzer();
        for (int phase : phases) {
            if (phase == StabilityAnalyzer.NONE) {
                x.skip(1);
            } else {
                x.add(phase);
            }
        }
        return x;
    }

    static void type(StabilityAnalyzer x, String text) {
        x.wipe();
        for (int i = 0; i < text.length(); i++) {
            x.write(text.charAt(i));
        }
    }

    /** The readings must be just these; NONE stands for a missing one. */
    void readings(String what, StabilityAnalyzer x, int... phases) {
        due(what + ": N", x.told(0), phases.length);
        for (int i = 0; i < phases.length; i++) {
            due(what + ": reading " + i, x.reading(i), phases[i]);
        }
    }
}
