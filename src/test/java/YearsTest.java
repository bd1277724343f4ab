/** Promises 21 to 25: years by draws, what is kept, and counts. */
public final class YearsTest {
    private static final int BAD = Check.BAD, NO = Check.NO, FULL = Check.FULL, NONE = Check.NONE;

    public static void main(String[] args) {
        draws();
        years();
        yearsStopAtTen();
        badYears();
        keep();
        back();
        count();
        Check.end();
    }

    private static int drawn(int z, int i, int t) {
        java.math.BigInteger x = java.math.BigInteger.valueOf(7919L * z + 6151L * i + 3571L * t + 1);
        return x.multiply(x).mod(java.math.BigInteger.valueOf(65521)).intValue() % 12;
    }

    /** The first deeds, worked out by hand: x is 1, 3572, 7143, 10714, 14285: the squares modulo 65521 follow. */
    private static void draws() {
        DeedNames x = Check.laid("n0,0,0,0;");
        int[] squares = {1, 48110, 47111, 62525, 28831};
        String name = "0";
        for (int t = 0; t < squares.length; t++) {
            Check.due("the draw of year " + t, drawn(0, 0, t), squares[t] % 12);
            if (squares[t] % 12 < 6) {
                name += squares[t] % 12;
            }
            for (int k = 0; k < 10; k++) {
                int want = k < name.length() ? name.charAt(k) - '0' : NONE;
                Check.due("then " + (t + 1) + ", " + k, x.then(0, t + 1, 0, k), want);
            }
        }
    }

    private static String lived(String name, int shame, int z, int i, int y) {
        for (int t = 0; t < y; t++) {
            int d = drawn(z, i, t);
            if (d == shame) {
                name = name.length() > 1 ? name.substring(0, name.length() - 1) : name;
            } else if (d < 6 && name.length() < 10) {
                name += d;
            }
        }
        return name;
    }

    private static void years() {
        DeedNames x = Check.laid("n0,0,0,0;n0,11,0,0;n0,1,0,0;k3;b12,0;");
        String[] names = {"0", "11", "1"};
        int[] zs = {0, 1, 77, 9999};
        int[] ys = {0, 1, 2, 7, 59, 60};
        for (int z : zs) {
            for (int y : ys) {
                int beats = 0;
                int longest = 0;
                for (int i = 0; i < 3; i++) {
                    String name = lived(names[i], 3, z, i, y);
                    beats += name.length();
                    longest = Math.max(longest, name.length());
                    for (int k = 0; k < 10; k++) {
                        int want = k < name.length() ? name.charAt(k) - '0' : NONE;
                        Check.due("then " + z + ", " + y + ", " + i + ", " + k, x.then(z, y, i, k), want);
                    }
                }
                Check.due("years " + z + ", " + y + ", 0", x.years(z, y, 0), beats);
                Check.due("years " + z + ", " + y + ", 1", x.years(z, y, 1), longest);
            }
        }
        Check.due("how many short at first", x.years(5, 0, 2), 2);
        Check.due("nothing is done", x.person(0, 3), 1);
        x.kind(2, 2);
        x.deed(2, 4);
        Check.due("from what stands now", x.years(5, 0, 1), 4);
        Check.due("NAMES, not as SAID", x.then(5, 0, 2, 2), NONE);
        Check.due("from what stands now", x.then(5, 0, 2, 1), 4);
        Check.due("all short", x.years(5, 0, 2), 3);
    }

    private static void yearsStopAtTen() {
        DeedNames x = Check.laid("n0,012345,0,0;");
        for (int d = 0; d < 4; d++) {
            x.deed(0, 2);
        }
        Check.due("longest", x.years(3, 60, 1), 10);
        for (int k = 6; k < 10; k++) {
            Check.due("then, " + k, x.then(3, 60, 0, k), 2);
        }
    }

    private static void badYears() {
        DeedNames x = new DeedNames();
        Check.due("z -1", x.years(-1, 0, 0), BAD);
        Check.due("z 10000", x.years(10000, 0, 0), BAD);
        Check.due("y -1", x.years(0, -1, 0), BAD);
        Check.due("y 61", x.years(0, 61, 0), BAD);
        Check.due("what -1", x.years(0, 0, -1), BAD);
        Check.due("what 3", x.years(0, 0, 3), BAD);
        Check.due("then: z -1", x.then(-1, 0, 0, 0), BAD);
        Check.due("then: z 10000", x.then(10000, 0, 0, 0), BAD);
        Check.due("then: y -1", x.then(0, -1, 0, 0), BAD);
        Check.due("then: y 61", x.then(0, 61, 0, 0), BAD);
        Check.due("then: i -1", x.then(0, 0, -1, 0), BAD);
        Check.due("then: i 1", x.then(0, 0, 1, 0), BAD);
        Check.due("then: k -1", x.then(0, 0, 0, -1), BAD);
        Check.due("then: k 10", x.then(0, 0, 0, 10), BAD);
        Check.due("then: k 9", x.then(0, 0, 0, 9), NONE);
    }

    private static void keep() {
        DeedNames x = new DeedNames();
        Check.due("keep", x.keep(), 1);
        Check.due("keep", x.keep(), 2);
        Check.due("keep", x.keep(), FULL);
        Check.due("count", x.count(3), 2);
        Check.due("back", x.back(), 1);
        Check.due("keep again", x.keep(), 2);
        Check.due("back", x.back(), 1);
        Check.due("back", x.back(), 0);
        Check.due("back", x.back(), NO);
        Check.due("count", x.count(3), 0);
    }

    private static void back() {
        DeedNames x = Check.laid("n0,0,0,0;n2,5,0,0;k3;");
        x.hear(1);
        x.hear(9);
        Check.due("keep", x.keep(), 1);
        x.deed(0, 1);
        x.deed(0, 2);
        x.kind(1, 3);
        x.forget();
        x.hear(4);
        Check.due("keep", x.keep(), 2);
        x.deed(0, 3);
        x.deed(0, 5);
        x.deed(1, 5);
        x.kind(0, 1);
        x.forget();
        int text = x.count(2);
        x.wipe();
        Check.due("back", x.back(), 1);
        Check.due("THE TEXT is not kept", x.count(2) + text, text);
        Check.due("heard", x.count(1), 1);
        Check.due("size", x.person(0, 3), 3);
        Check.due("said", x.said(0, 2), 2);
        Check.due("kind", x.person(0, 0), 0);
        Check.due("kind", x.person(1, 0), 3);
        Check.due("size", x.person(1, 3), 1);
        Check.due("back", x.back(), 0);
        Check.due("heard", x.count(1), 2);
        Check.due("meant by 1 and what was not heard", x.meant(), 1);
        Check.due("size", x.person(0, 3), 1);
        Check.due("kind", x.person(1, 0), 2);
        Check.due("back", x.back(), NO);
        Check.due("nothing changes", x.count(1), 2);
        x.keep();
        x.deed(0, 1);
        Check.due("kept apart from what is done", x.back(), 0);
        Check.due("forget", x.forget(), 2);
        x.hear(5);
        x.hear(5);
        x.keep();
        x.forget();
        x.hear(0);
        x.hear(0);
        Check.due("what was heard comes back, too", x.back(), 0);
        // 55 weighs 81 as it was heard, 00 weighs 1
        x.deed(0, 0);
        Check.due("odds of 55, above", x.odds(1, 0), 81);
        Check.due("odds of 55, below", x.odds(1, 1), 82);
        x.deed(0, 3);
        Check.due("size", x.person(0, 3), 1);
    }

    private static void count() {
        DeedNames x = Check.laid("n0,0,0,0;n2,5,0,0;b12,20;m9;");
        x.hear(1);
        x.hear(1);
        x.hear(1);
        x.keep();
        int[] due = {2, 3, 28, 1, 12, 20, 9};
        for (int what = 0; what < due.length; what++) {
            Check.due("count " + what, x.count(what), due[what]);
        }
        Check.due("count 7", x.count(7), BAD);
        Check.due("count -1", x.count(-1), BAD);
        Check.due("count least", x.count(Integer.MIN_VALUE), BAD);
    }
}
