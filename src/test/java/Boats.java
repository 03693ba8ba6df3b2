/** Objects as tests want them. */
final class Boats {
    /** By it nothing grows wetter or drier, and 1 a day comes in for each 1 that a GAP is OPEN. */
    static final String STILL = "soak 0;leak 1;dries 0;";

    private Boats() { }

    static void feed(DriedOut x, String text) {
        for (int at = 0; at < text.length(); at += 8) {
            int n = Math.min(8, text.length() - at);
            long bytes = 0;
            for (int i = 0; i < n; i++) bytes |= (long) (text.charAt(at + i) & 255) << (8 * i);
            x.feed(n, bytes);
        }
    }

    static int text(DriedOut x, String text) {
        feed(x, text);
        return x.text();
    }

    /** A text is fed, read and THE RULE. */
    static DriedOut rule(DriedOut x, String text) {
        int n = text(x, text);
        if (n < 1) throw new IllegalStateException("text() of " + text + " answered " + n);
        x.force(n);
        return x;
    }

    static DriedOut ruled(String text) {
        return rule(new DriedOut(), text);
    }

    /** As many planks more, narrow and dry; their gaps are 0 wide. */
    static DriedOut planks(DriedOut x, int n) {
        for (int i = 0; i < n; i++) x.plank(0, 10, 0);
        return x;
    }

    /** Up to this DAY, which must be 9999 at most, in the air. */
    static DriedOut aired(DriedOut x, int day) {
        for (int d = x.count(3); d < day; d = x.count(3)) x.air(Math.min(60, day - d));
        return x;
    }

    /** What a PLANK of wet 0, NUMBER 0 takes up by an E: the E, held within 0 .. 100. */
    static int soak(String e) {
        DriedOut x = ruled("soak " + e + ";leak 0;dries 0;");
        x.plank(0, 10, 0);
        return x.told(0, 4);
    }
}
