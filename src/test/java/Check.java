import java.nio.charset.StandardCharsets;
import java.util.function.IntToLongFunction;

/** What the tests share: counts answers that are not as due, and writes texts. */
final class Check {
    static final int BAD = -1, NO = -2, FULL = -3, NONE = -4;
    private static int wrong = 0;
    private static String sentence = "";

    private Check() {
    }

    /** The sentence of the document that is tested from here on. */
    static void about(String words) {
        sentence = "'" + words + "': ";
    }

    static void due(String call, long got, long want) {
        if (got != want) {
            wrong++;
            System.out.println(sentence + call + " answered " + got + ", due is " + want);
        }
    }

    static void same(String what, String got, String want) {
        if (!got.equals(want)) {
            wrong++;
            System.out.println(sentence + what + " is\n" + got + "\nand was\n" + want);
        }
    }

    /** The numbers least to most are told: all others are BAD, those among them that a narrower type would take for told ones. */
    static void onlyTold(String call, int least, int most, IntToLongFunction answer) {
        int[] near = {least, least + 1, most - 1, most};
        for (int v : near) {
            if (v >= least && v <= most && answer.applyAsLong(v) == BAD) {
                due(call + " of " + v + " is BAD, so it", BAD, v);
            }
        }
        int[] beyond = {least - 1, least - 2, most + 1, most + 2, least + 32, most + 32, least - 32, least + 64, least + 256,
            most + 256, least - 256, least + 65536, most + 65536, Integer.MIN_VALUE, Integer.MIN_VALUE + least,
            Integer.MIN_VALUE + most, Integer.MAX_VALUE, -most};
        for (int v : beyond) {
            if (v < least || v > most) {
                due(call + " of " + v, answer.applyAsLong(v), BAD);
            }
        }
    }

    static void end() {
        System.out.println(wrong == 0 ? "all answers are as due" : wrong + " answers are not as due");
        if (wrong != 0) {
            System.exit(1);
        }
    }

    static void write(DeedNames x, String text) {
        byte[] bytes = text.getBytes(StandardCharsets.ISO_8859_1);
        for (int at = 0; at < bytes.length; at += 8) {
            int n = Math.min(8, bytes.length - at);
            long v = 0;
            for (int k = 0; k < n; k++) {
                v = v << 8 | bytes[at + k] & 255;
            }
            due("write at " + at, x.write(n, v), at + n);
        }
    }

    /** A new object on which the text, which has no fault, is laid. */
    static DeedNames laid(String text) {
        DeedNames x = new DeedNames();
        write(x, text);
        due("fault of " + text, x.fault(), NONE);
        if (x.lay() < 1) {
            due("lay of " + text, x.lay(), 1);
        }
        return x;
    }

    static void faultDue(String text, int want) {
        DeedNames x = new DeedNames();
        write(x, text);
        due("fault of " + text, x.fault(), want);
    }
}
