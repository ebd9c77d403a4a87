/** All that calls can learn of an analyzer, in one text. Taking it uses the analyzer up. */
final class Snapshot {
    private Snapshot() {
    }

    static String of(StabilityAnalyzer x) {
        StringBuilder told = new StringBuilder();
        for (int what = 0; what <= 8; what++) {
            told.append(x.told(what)).append(' ');
        }
        told.append("fault ").append(x.fault(0)).append(' ').append(x.fault(1));
        tellReadings(x, told);
        for (int states = 0; states < 9 && x.told(8) > 0; states++) {
            told.append(" undo ").append(x.undo());
            tellReadings(x, told);
        }
        for (int image = 0; image <= 1; image++) {
            told.append(" back ").append(x.back(image));
            tellReadings(x, told);
        }
        told.append(" load ").append(x.load()).append(' ').append(x.fault(0)).append(' ').append(x.fault(1));
        tellReadings(x, told);
        return told.toString();
    }

    private static void tellReadings(StabilityAnalyzer x, StringBuilder told) {
        told.append(" [");
        for (int i = 0; i < x.told(0); i++) {
            told.append(x.reading(i)).append(' ');
        }
        told.append(']');
    }
}
