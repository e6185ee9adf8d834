import java.nio.charset.StandardCharsets;

/** What the tests share: counting wrong answers, and telling a valley in a text. */
final class Check {
    private int wrong;
    private int asked;

    void due(String call, long got, long want) {
        asked++;
        if (got != want) {
            wrong++;
            if (wrong <= 40) System.out.println(call + " answered " + got + ", due is " + want);
        }
    }

    void holds(String what, boolean is) {
        due(what, is ? 1 : 0, 1);
    }

    /** Prints the outcome and ends the test; exit code 1 if an answer was wrong. */
    void end() {
        System.out.println(asked + " answers, " + wrong + " not as due");
        if (wrong != 0 || asked == 0) System.exit(1);
    }

    static void feed(SungAsleep x, String text) {
        byte[] bytes = text.getBytes(StandardCharsets.ISO_8859_1);
        for (int at = 0; at < bytes.length; at += 8) {
            int n = Math.min(8, bytes.length - at);
            long eight = 0;
            for (int i = 0; i < n; i++) eight |= (bytes[at + i] & 255L) << 8 * i;
            x.feed(eight, n);
        }
    }

    static int tell(SungAsleep x, String text) {
        feed(x, text);
        return x.valley();
    }

    static SungAsleep told(String text) {
        SungAsleep x = new SungAsleep();
        if (tell(x, text) < 0) throw new IllegalStateException("a test's own text is wrong: " + text);
        return x;
    }
}
