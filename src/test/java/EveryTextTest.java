/** Every short text, alone and behind a beginning that makes more of it, loaded by the program and by the reference. */
public final class EveryTextTest {
    /** One of each kind of byte, and the digits of the bounds 0, 64 and 65. */
    private static final String SIGNS = "0645-?*;x";
    private static final int PLACES_ASKED = 65;
    private static final int MOST_TOLD = 20;

    private final Checks checks = new Checks();

    public static void main(String[] args) {
        EveryTextTest test = new EveryTextTest();
        test.behind("", 5);
        test.behind("6*64;", 4);
        test.behind("?*60;", 4);
        test.behind("-9999", 4);
        test.checks.close();
    }

    private void behind(String text, int more) {
        loads(text);
        for (int k = 0; more > 0 && k < SIGNS.length() && checks.wrong() < MOST_TOLD; k++) {
            behind(text + SIGNS.charAt(k), more - 1);
        }
    }

    private void loads(String text) {
        StabilityAnalyzer x = new StabilityAnalyzer();
        Reference y = new Reference();
        x.add(7);
        y.add(7);
        for (int k = 0; k < text.length(); k++) {
            x.write(text.charAt(k));
            y.write(text.charAt(k));
        }
        checks.due("load of " + text, x.load(), y.load());
        checks.due("kind of the fault in " + text, x.fault(0), y.fault(0));
        checks.due("place of the fault in " + text, x.fault(1), y.fault(1));
        checks.holds("readings and changes after load of " + text, sameReadings(x, y) && x.told(8) == y.told(8));
    }

    private static boolean sameReadings(StabilityAnalyzer x, Reference y) {
        for (int i = 0; i < PLACES_ASKED; i++) {
            if (x.reading(i) != y.reading(i)) {
                return false;
            }
        }
        return x.told(0) == y.told(0);
    }
}
