/** The edges of years, of what is kept and of counts, sentence by sentence of the document: promises 21 to 25. */
public final class YearEdgesTest {
    private static final int BAD = Check.BAD, NO = Check.NO, FULL = Check.FULL, NONE = Check.NONE;

    public static void main(String[] args) {
        hillsThatAreTold();
        belowSix();
        drawsOfPersons();
        noYear();
        lastYear();
        greatestDraw();
        tenAtMost();
        shameInYears();
        longest();
        numberOfShort();
        cryOfAll();
        places();
        changesNothing();
        twoAtMost();
        asKeptLast();
        whatIsKept();
        nothingKept();
        counts();
        Check.end();
    }

    private static void nameDue(DeedNames x, int z, int y, int i, String name) {
        for (int k = 0; k < 10; k++) {
            int due = k < name.length() ? name.charAt(k) - '0' : NONE;
            Check.due("then " + z + ", " + y + ", " + i + ", " + k, x.then(z, y, i, k), due);
        }
    }

    // ---- promises 21 and 22

    private static void hillsThatAreTold() {
        Check.about("z (0 to 9999). BAD");
        Check.onlyTold("years", 0, 9999, z -> new DeedNames().years(z, 1, 0));
        Check.onlyTold("then", 0, 9999, z -> new DeedNames().then(z, 1, 0, 0));
        Check.about("y YEARS (0 to 60). BAD");
        Check.onlyTold("years", 0, 60, y -> new DeedNames().years(1, y, 1));
        Check.onlyTold("then", 0, 60, y -> new DeedNames().then(1, y, 0, 0));
        Check.about("CRY (what = 0), the longest (1), how many SHORT (2). BAD");
        Check.onlyTold("years", 0, 2, what -> new DeedNames().years(1, 1, what));
        Check.about("the k-th SYLLABLE of the NAME of a PERSON (k 0 to 9). BAD");
        Check.onlyTold("then", 0, 9, k -> new DeedNames().then(1, 1, 0, k));
        Check.onlyTold("then of nobody", 0, 0, i -> new DeedNames().then(1, 1, i, 9));
    }

    /** For each d a z by which the first PERSON draws it in YEAR 0: (7919 z and 1) squared modulo 65521 modulo 12. */
    private static void belowSix() {
        Check.about("does DEED d, if d is below 6");
        int[] zs = {49, 0, 16, 1, 5, 8, 3, 4, 6, 7, 34, 18};
        for (int d = 0; d < 12; d++) {
            DeedNames x = Check.laid("n0,3,0,0;");
            nameDue(x, zs[d], 1, 0, d < 6 ? "3" + d : "3");
            Check.due("longest", x.years(zs[d], 1, 1), d < 6 ? 2 : 1);
            DeedNames worth = Check.laid("n0,3,0,0;l0,5;l1,4;l2,3;l3,2;l4,1;l5,0;");
            nameDue(worth, zs[d], 1, 0, d < 6 ? "3" + (5 - d) : "3");
        }
    }

    private static void drawsOfPersons() {
        Check.about("x is 7919 z, 6151 i, 3571 t and 1 together");
        DeedNames x = Check.laid("n0,0,0,0;".repeat(8));
        for (int i = 0; i < 8; i++) {
            String name = "0";
            for (int t = 0; t < 5; t++) {
                long sum = 7919L * 12 + 6151L * i + 3571L * t + 1;
                long d = sum * sum % 65521 % 12;
                name += d < 6 ? "" + d : "";
            }
            for (int k = 0; k < 6; k++) {
                Check.due("then 12, 5, " + i + ", " + k, x.then(12, 5, i, k), k < name.length() ? name.charAt(k) - '0' : NONE);
            }
        }
    }

    private static void noYear() {
        Check.about("behind y YEARS (0 to 60): none");
        DeedNames x = Check.laid("n0,01,0,0;n1,234,0,0;n2,5,0,0;b2,4;");
        int[] zs = {0, 1, 9999};
        for (int z : zs) {
            nameDue(x, z, 0, 0, "01");
            nameDue(x, z, 0, 1, "234");
            nameDue(x, z, 0, 2, "5");
            Check.due("CRY", x.years(z, 0, 0), x.cry(7));
            Check.due("CRY", x.years(z, 0, 0), 6 + 2 * 4);
            Check.due("longest", x.years(z, 0, 1), 2);
            Check.due("SHORT", x.years(z, 0, 2), 3);
        }
        Check.about("behind y YEARS: of the NAMES and KINDS as they are now");
        x.deed(0, 3);
        x.kind(1, 3);
        nameDue(x, 0, 0, 0, "013");
        Check.due("longest", x.years(0, 0, 1), 6);
        Check.due("CRY", x.years(0, 0, 0), 3 + 12 + 2 + 5 * 4);
    }

    private static void lastYear() {
        Check.about("in each YEAR t (0 first): the first and the last of 60");
        // by 0 the first draws 1 in YEAR 0
        nameDue(Check.laid("n0,0,0,0;"), 0, 1, 0, "01");
        // by 104 the first draws 3 in YEAR 59, the eighth 5
        DeedNames x = Check.laid("n0,0,0,0;".repeat(8) + "k0;k1;k2;");
        nameDue(x, 104, 59, 0, "04");
        nameDue(x, 104, 60, 0, "043");
        nameDue(x, 104, 59, 7, "0545");
        nameDue(x, 104, 60, 7, "05455");
    }

    private static void greatestDraw() {
        Check.about("((x times x) modulo 65521): the greatest x there is");
        nameDue(Check.laid("n0,0,0,0;"), 9999, 60, 0, "0330551440");
        nameDue(Check.laid("n0,0,0,0;".repeat(8) + "k0;k1;k2;"), 9999, 60, 7, "054443");
    }

    /** By 92 the first draws 4 and then 2, by 1032 2 and then 4; 5 is drawn by 8 first. */
    private static void tenAtMost() {
        Check.about("a DEED that would make its NAME longer than 10 is not done");
        DeedNames x = Check.laid("n0,000000,0,0;");
        for (int k = 0; k < 3; k++) {
            x.deed(0, 1);
        }
        nameDue(x, 92, 1, 0, "0000001114");
        nameDue(x, 92, 2, 0, "0000001114");
        Check.due("longest", x.years(92, 60, 1), 10);
        x.deed(0, 1);
        nameDue(x, 92, 60, 0, "0000001111");
        Check.due("nothing is done by it", x.person(0, 3), 10);
        Check.about("a DEED that is not done does not end the YEARS");
        DeedNames y = Check.laid("n0,000000,0,0;n0,1,0,0;k2;");
        for (int k = 0; k < 4; k++) {
            y.deed(0, 1);
        }
        nameDue(y, 92, 1, 0, "0000001111");
        nameDue(y, 92, 2, 0, "000000111");
        nameDue(y, 1032, 1, 0, "000000111");
        nameDue(y, 1032, 2, 0, "0000001114");
        Check.due("longest, DOUBLE", longestDouble(), 20);
    }

    private static int longestDouble() {
        DeedNames x = Check.laid("n2,000000,0,0;");
        return x.years(92, 60, 1);
    }

    private static void shameInYears() {
        Check.about("does DEED d: by a shame its last one goes (if it has two or more)");
        // 2 is drawn by 16 in YEAR 0
        nameDue(Check.laid("n0,5,0,0;k2;"), 16, 1, 0, "5");
        nameDue(Check.laid("n0,54,0,0;k2;"), 16, 1, 0, "5");
        nameDue(Check.laid("n0,543,0,0;k2;l2,2;"), 16, 1, 0, "54");
        nameDue(Check.laid("n0,5,0,0;k0;k1;k2;k3;k4;k5;"), 9999, 60, 0, "5");
        nameDue(Check.laid("n0,012345,0,0;k0;k1;k2;k3;k4;k5;"), 9999, 60, 0, "0");
    }

    private static void longest() {
        Check.about("the longest LONG");
        Check.due("of one", Check.laid("n0,0,0,0;").years(0, 0, 1), 1);
        Check.due("the first", Check.laid("n0,012,0,0;n0,0,0,0;").years(0, 0, 1), 3);
        Check.due("the last", Check.laid("n0,0,0,0;n0,012,0,0;").years(0, 0, 1), 3);
        Check.due("as it is SAID: SHAMED", Check.laid("n0,0,0,0;n1,012,0,0;").years(0, 0, 1), 2);
        Check.due("as it is SAID: DOUBLE", Check.laid("n0,012,0,0;n2,01,0,0;").years(0, 0, 1), 4);
        Check.due("as it is SAID: DRUMMED", Check.laid("n0,012,0,0;n3,01,0,0;").years(0, 0, 1), 4);
    }

    private static void numberOfShort() {
        Check.about("how many can be CALLED SHORT among all");
        Check.due("of one", Check.laid("n0,0,0,0;").years(0, 0, 2), 1);
        Check.due("none of two", Check.laid("n0,0,0,0;n0,0,0,0;").years(0, 0, 2), 0);
        Check.due("none of eight", Check.laid("n0,0,0,0;".repeat(8)).years(0, 0, 2), 0);
        Check.due("one of two", Check.laid("n0,0,0,0;n0,00,0,0;").years(0, 0, 2), 1);
        String six = "n0,0,0,0;n0,1,0,0;n0,2,0,0;n0,3,0,0;n0,4,0,0;";
        Check.due("all of eight", Check.laid(six + "n0,50,0,0;n0,51,0,0;n3,52,0,0;").years(0, 0, 2), 8);
        Check.due("seven of eight", Check.laid(six + "n0,5,0,0;n0,51,0,0;n3,52,0,0;").years(0, 0, 2), 7);
        // by 0 the first draws 1, the second 3, which is a shame
        DeedNames x = Check.laid("n0,0,0,0;n0,0,0,0;k3;");
        nameDue(x, 0, 1, 0, "01");
        nameDue(x, 0, 1, 1, "0");
        Check.due("now", x.years(0, 0, 2), 0);
        Check.due("behind a YEAR", x.years(0, 1, 2), 1);
    }

    private static void cryOfAll() {
        Check.about("CRY for all then");
        DeedNames x = Check.laid("n0,0,0,0;n0,0,0,0;s1,9;b2,5;");
        // 01 and 03: a breath ahead of the third
        Check.due("behind a YEAR", x.years(0, 1, 0), 1 + 9 + 5 + 1 + 1);
        Check.due("now", x.years(0, 0, 0), 2);
    }

    private static void places() {
        Check.about("the k-th SYLLABLE of the NAME of a PERSON. NONE");
        for (int kind = 0; kind < 4; kind++) {
            DeedNames x = Check.laid("n" + kind + ",012345,0,0;");
            nameDue(x, 5, 0, 0, "012345");
            for (int k = 0; k < 4; k++) {
                x.deed(0, k);
            }
            nameDue(x, 5, 0, 0, "0123450123");
        }
    }

    private static void changesNothing() {
        Check.about("A HILL: nothing is done by it");
        DeedNames x = Check.laid("n0,0,0,0;n2,1,0,0;");
        x.hear(1);
        x.years(9999, 60, 0);
        x.years(9999, 60, 1);
        x.years(9999, 60, 2);
        x.then(9999, 60, 1, 9);
        Check.due("NAME", x.person(0, 3), 1);
        Check.due("NAME", x.person(1, 3), 1);
        Check.due("KIND", x.person(1, 0), 2);
        Check.due("HEARD", x.count(1), 1);
        Check.due("KEPT", x.count(3), 0);
    }

    // ---- promises 23 to 25

    private static void twoAtMost() {
        Check.about("KEPT: how many: 2 at most. FULL");
        DeedNames x = Check.laid("n0,0,0,0;");
        Check.due("keep", x.keep(), 1);
        x.deed(0, 1);
        Check.due("keep", x.keep(), 2);
        x.deed(0, 2);
        Check.due("keep a third", x.keep(), FULL);
        Check.due("and again", x.keep(), FULL);
        Check.about("FULL: nothing changes then");
        Check.due("KEPT", x.count(3), 2);
        Check.due("NAME", x.person(0, 3), 3);
        Check.due("back", x.back(), 1);
        Check.due("as KEPT second", x.person(0, 3), 2);
        Check.due("back", x.back(), 0);
        Check.due("as KEPT first", x.person(0, 3), 1);
    }

    private static void asKeptLast() {
        Check.about("As KEPT last: how many are left");
        DeedNames x = Check.laid("n0,0,0,0;");
        x.keep();
        x.deed(0, 1);
        x.keep();
        x.deed(0, 2);
        Check.due("back", x.back(), 1);
        Check.due("NAME", x.person(0, 3), 2);
        x.deed(0, 3);
        x.deed(0, 4);
        Check.due("keep in its place", x.keep(), 2);
        x.deed(0, 5);
        Check.due("back", x.back(), 1);
        Check.due("NAME", x.person(0, 3), 4);
        Check.due("said", x.said(0, 3), 4);
        Check.due("back", x.back(), 0);
        Check.due("NAME", x.person(0, 3), 1);
        Check.due("no more", x.back(), NO);
        Check.due("keep anew", x.keep(), 1);
    }

    private static void whatIsKept() {
        Check.about("KEPT are NAMES, KINDS, what was HEARD");
        DeedNames x = Check.laid("n0,0,0,0;n1,12,0,0;".repeat(4) + "k0;m0;");
        for (int i = 0; i < 12; i++) {
            x.hear(i < 1 ? 0 : 9);
        }
        x.keep();
        for (int i = 0; i < 8; i++) {
            x.deed(i, i % 2 == 0 ? 5 : 0);
            x.kind(i, 3);
        }
        x.forget();
        x.hear(5);
        x.wipe();
        x.write(1, 'x');
        Check.due("back", x.back(), 0);
        for (int i = 0; i < 8; i++) {
            Check.due("NAME of " + i, x.person(i, 3), 1 + i % 2);
            Check.due("KIND of " + i, x.person(i, 0), i % 2);
            Check.due("said of " + i, x.said(i, 0), i % 2);
        }
        Check.due("HEARD", x.count(1), 12);
        Check.due("HEARD is full again", x.hear(0), FULL);
        Check.due("THE TEXT is not KEPT", x.count(2), 1);
        Check.about("KEPT: nothing HEARD, too");
        DeedNames y = Check.laid("n0,0,0,0;");
        y.keep();
        y.hear(0);
        Check.due("meant", y.meant(), 0);
        y.back();
        Check.due("HEARD", y.count(1), 0);
        Check.due("meant", y.meant(), NONE);
        Check.about("KEPT: what was HEARD, SYLLABLE by SYLLABLE");
        DeedNames z = Check.laid("n0,01,0,0;n0,10,0,0;m0;");
        z.hear(1);
        z.hear(9);
        z.keep();
        z.forget();
        z.hear(9);
        z.hear(1);
        z.keep();
        z.forget();
        Check.due("back", z.back(), 1);
        Check.due("meant by the second", z.meant(), 0);
        Check.due("back", z.back(), 0);
        Check.due("meant by the first", z.meant(), 1);
    }

    private static void nothingKept() {
        Check.about("As KEPT last. NO");
        DeedNames x = Check.laid("n0,0,0,0;");
        x.deed(0, 4);
        x.kind(0, 2);
        x.hear(3);
        Check.due("back", x.back(), NO);
        Check.due("NAME", x.person(0, 3), 2);
        Check.due("KIND", x.person(0, 0), 2);
        Check.due("HEARD", x.count(1), 1);
        Check.due("KEPT", x.count(3), 0);
        x.keep();
        x.back();
        Check.due("back twice", x.back(), NO);
    }

    private static void counts() {
        Check.about("How many: 0 to 6. BAD");
        Check.onlyTold("count", 0, 6, what -> new DeedNames().count(what));
        Check.about("How many: 0 PERSONS, 1 HEARD, 2 bytes of THE TEXT, 3 KEPT, 4 B, 5 V, 6 M");
        String[] texts = {"n0,0,0,0;b1,0;m0;", "n0,0,0,0;".repeat(8) + "b12,20;m9;"};
        int[][] due = {{1, 0, 17, 0, 1, 0, 0}, {8, 12, 82, 2, 12, 20, 9}};
        for (int t = 0; t < 2; t++) {
            DeedNames x = Check.laid(texts[t]);
            for (int k = 0; k < due[t][1]; k++) {
                x.hear(9);
            }
            for (int k = 0; k < due[t][3]; k++) {
                x.keep();
            }
            for (int what = 0; what < 7; what++) {
                Check.due("count " + what, x.count(what), due[t][what]);
            }
        }
        Check.due("nothing", new DeedNames().count(7), BAD);
    }
}
