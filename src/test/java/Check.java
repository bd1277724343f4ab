import java.nio.charset.StandardCharsets;

/** What the tests share: counts answers that are not as due, and writes texts. */
final class Check {
    static final int BAD = -1, NO = -2, FULL = -3, NONE = -4;
    private static int wrong = 0;

    private Check() {
    }

    static void due(String call, long got, long want) {
        if (got != want) {
            wrong++;
            System.out.println(call + " answered " + got + ", due is " + want);
        }
    }

    static void end() {
        System.out.println(wrong == 0 ? "all answers are as due" : wrong + " answers are not as due");
        if (wrong != 0) {
            System.exit(1);
        }
    }

    static void write(DeedNames x, String text) {
        byte[] bytes = text.getBytes(StandardCharsets.ISO_8859_1);
        for (int at = 0; at < bytes.length; at += 8) {
            int n = Math.min(8, bytes.length - at);
            long v = 0;
            for (int k = 0; k < n; k++) {
                v = v << 8 | bytes[at + k] & 255;
            }
            due("write at " + at, x.write(n, v), at + n);
        }
    }

    /** A new object on which the text, which has no fault, is laid. */
    static DeedNames laid(String text) {
        DeedNames x = new DeedNames();
        write(x, text);
        due("fault of " + text, x.fault(), NONE);
        if (x.lay() < 1) {
            due("lay of " + text, x.lay(), 1);
        }
        return x;
    }

    static void faultDue(String text, int want) {
        DeedNames x = new DeedNames();
        write(x, text);
        due("fault of " + text, x.fault(), want);
    }
}
