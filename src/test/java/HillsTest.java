/** Promises 1 to 9: texts, persons, what is said of them, deeds and kinds. */
public final class HillsTest {
    private static final int BAD = Check.BAD, NO = Check.NO, FULL = Check.FULL, NONE = Check.NONE;

    public static void main(String[] args) {
        newObject();
        write();
        wipe();
        faultOfForm();
        faultOfRange();
        faultOfNinth();
        lay();
        layClears();
        person();
        said();
        deed();
        kind();
        Check.end();
    }

    private static void newObject() {
        DeedNames x = new DeedNames();
        int[] counts = {1, 0, 0, 0, 4, 3, 1};
        for (int what = 0; what < counts.length; what++) {
            Check.due("new: count " + what, x.count(what), counts[what]);
        }
        int[] persons = {0, 5, 0, 2, 2, 2};
        for (int what = 0; what < persons.length; what++) {
            Check.due("new: person 0, " + what, x.person(0, what), persons[what]);
        }
        Check.due("new: fault", x.fault(), NONE);
        Check.due("new: lay", x.lay(), NO);
        Check.due("new: meant", x.meant(), NONE);
        Check.due("new: back", x.back(), NO);
        Check.due("new: said 0", x.said(0, 0), 0);
        Check.due("new: said 1", x.said(0, 1), 1);
        Check.due("new: deed 5", x.deed(0, 5), 3);
        Check.due("new: said 2", x.said(0, 2), 5);
    }

    private static void write() {
        DeedNames x = new DeedNames();
        Check.due("write 0", x.write(0, 0x6b), BAD);
        Check.due("write 9", x.write(9, 0x6b), BAD);
        Check.due("write -1", x.write(-1, 0x6b), BAD);
        Check.due("write least", x.write(Integer.MIN_VALUE, 0x6b), BAD);
        Check.due("count 2", x.count(2), 0);
        Check.due("write the low bytes", x.write(3, 0x11223344556b303bL), 3);
        Check.due("fault", x.fault(), NONE);
        Check.due("write in order", x.write(8, 0x6b313b6b323b6b33L), 11);
        Check.due("fault of the open item", x.fault(), 9);
        Check.due("write the end", x.write(1, ';'), 12);
        Check.due("fault", x.fault(), NONE);
        Check.due("write a byte above 127", x.write(1, -1L), 13);
        Check.due("fault", x.fault(), 12);
        DeedNames y = new DeedNames();
        for (int n = 1; n <= 49; n++) {
            Check.due("write", y.write(8, 0x6b313b6b323b6b33L), 8 * n);
        }
        Check.due("write to 399", y.write(7, 0), 399);
        Check.due("write over 400", y.write(2, 0), FULL);
        Check.due("bad ahead of full", y.write(9, 0), BAD);
        Check.due("count 2", y.count(2), 399);
        Check.due("write to 400", y.write(1, 0), 400);
        Check.due("write to 401", y.write(1, 0), FULL);
        Check.due("fault", y.fault(), 6);
        Check.due("wipe", y.wipe(), 400);
        Check.due("write again", y.write(1, 0), 1);
    }

    private static void wipe() {
        DeedNames x = new DeedNames();
        Check.due("wipe nothing", x.wipe(), 0);
        Check.write(x, "n1,012,7,8;");
        Check.due("lay", x.lay(), 1);
        Check.due("lay leaves the text", x.count(2), 11);
        Check.due("wipe", x.wipe(), 11);
        Check.due("wipe twice", x.wipe(), 0);
        Check.due("what is laid stays", x.person(0, 2), 8);
        Check.due("lay nothing", x.lay(), NO);
    }

    private static void faultOfForm() {
        Check.faultDue("", NONE);
        Check.faultDue("n0,0,0,0;", NONE);
        Check.faultDue("n003,000000,099,009;l005,000;k005;s000,009;b012,020;m009;", NONE);
        Check.faultDue("n0,0,0,0;x", 9);
        Check.faultDue("N0,0,0,0;", 0);
        Check.faultDue(";", 0);
        Check.faultDue("k0;;", 3);
        Check.faultDue("k0; k1;", 3);
        Check.faultDue("k0;k1", 3);
        Check.faultDue("k0;k", 3);
        Check.faultDue("k0;k;", 3);
        Check.faultDue("k0;k0000;", 3);
        Check.faultDue("k0;k0,;", 3);
        Check.faultDue("k0;k0,1;", 3);
        Check.faultDue("k0,k1;", 0);
        Check.faultDue("l0;", 0);
        Check.faultDue("l0,1,2;", 0);
        Check.faultDue("l0,1", 0);
        Check.faultDue("l,1;", 0);
        Check.faultDue("l0,;", 0);
        Check.faultDue("l-1,1;", 0);
        Check.faultDue("n0,0,0;", 0);
        Check.faultDue("n0,0,0,0,0;", 0);
        Check.faultDue("n0,0;0,0;", 0);
        Check.faultDue("n0,,0,0;", 0);
        Check.faultDue("n0,000000,0,0;", NONE);
        Check.faultDue("n0,0000000,0,0;", 0);
        Check.faultDue("n0000,0,0,0;", 0);
        Check.faultDue("n0,0,0000,0;", 0);
        Check.faultDue("n0,0,0,0000;", 0);
        Check.faultDue("b4;", 0);
        Check.faultDue("m1,1;", 0);
        Check.faultDue("s1;", 0);
        Check.faultDue("k0;x;k9;", 3);
        Check.faultDue("k0;k9;x;", 3);
        Check.faultDue("k0;\u00eb0;", 3);
        Check.faultDue("k\u00b0;", 0);
    }

    private static void faultOfRange() {
        String[] fine = {"n3,5,99,9;", "l5,5;", "l0,0;", "k5;", "s5,9;", "s0,1;", "b1,0;", "b12,20;", "m0;", "m9;"};
        String[] faulty = {"n4,5,99,9;", "n3,6,99,9;", "n3,5,100,9;", "n3,5,99,10;", "l6,5;", "l5,6;", "k6;", "s6,9;",
            "s5,10;", "s5,0;", "b0,3;", "b13,3;", "b4,21;", "m10;", "n0,05/,1,1;", "n0,0:,1,1;", "k/;", "k:;"};
        for (String item : fine) {
            Check.faultDue("k1;" + item, NONE);
        }
        for (String item : faulty) {
            Check.faultDue("k1;" + item + "k2;", 3);
        }
    }

    private static void faultOfNinth() {
        String eight = "n0,0,0,0;".repeat(8);
        Check.faultDue(eight + "k1;m2;", NONE);
        Check.faultDue(eight + "k1;n0,0,0,0;", 75);
        DeedNames x = Check.laid(eight);
        Check.due("eight", x.count(0), 8);
    }

    private static void lay() {
        DeedNames x = new DeedNames();
        Check.write(x, "k0;l1,2;s0,9;b5,5;m5;");
        Check.due("lay without persons", x.lay(), NO);
        Check.due("B is as it was", x.count(4), 4);
        x.wipe();
        Check.write(x, "n2,345,9,9;n0,");
        x.hear(1);
        x.keep();
        Check.due("lay with a fault", x.lay(), NO);
        Check.due("persons are as they were", x.person(0, 1), 5);
        Check.due("heard is as it was", x.count(1), 1);
        Check.due("kept is as it was", x.count(3), 1);
        Check.due("wipe", x.wipe(), 14);
        Check.write(x, "m3;n2,345,9,8;b7,6;n1,0,1,0;l1,4;l1,3;b6,7;s3,4;s3,5;m2;k2;");
        Check.due("lay", x.lay(), 2);
        int[] counts = {2, 0, 59, 0, 6, 7, 2};
        for (int what = 0; what < counts.length; what++) {
            Check.due("count " + what, x.count(what), counts[what]);
        }
        Check.due("the last worth", x.deed(1, 1), 2);
        x.kind(1, 0);
        Check.due("the last worth", x.said(1, 1), 3);
        Check.due("the last beats", x.person(0, 5), 14);
    }

    private static void layClears() {
        DeedNames x = Check.laid("n0,01,0,0;n0,2,3,4;l0,5;k1;s0,9;b1,1;m9;");
        x.hear(1);
        x.keep();
        x.keep();
        x.wipe();
        Check.write(x, "n0,0,0,0;");
        Check.due("lay", x.lay(), 1);
        int[] counts = {1, 0, 9, 0, 4, 3, 1};
        for (int what = 0; what < counts.length; what++) {
            Check.due("laid anew: count " + what, x.count(what), counts[what]);
        }
        Check.due("no second person", x.person(1, 0), BAD);
        Check.due("beats without", x.person(0, 5), 1);
        Check.due("no shame", x.deed(0, 1), 2);
        Check.due("back", x.back(), NO);
        Check.due("worth without", x.deed(0, 0), 3);
        Check.due("said", x.said(0, 1), 1);
        Check.due("said", x.said(0, 2), 0);
        Check.due("lay again", x.lay(), 1);
        Check.due("as told again", x.person(0, 3), 1);
        x.wipe();
        Check.write(x, "n0,2,3,4;k0;k4;s2,6;l5,1;");
        Check.due("fault", x.fault(), NONE);
        Check.due("a text that is not laid changes nothing", x.person(0, 5), 1);
        Check.due("a text that is not laid changes nothing", x.deed(0, 4), 2);
        x.wipe();
        Check.write(x, "n1,30,8,7;");
        Check.due("lay", x.lay(), 1);
        Check.due("what the text ahead told is gone", x.deed(0, 0), 3);
        Check.due("what the text ahead told is gone", x.deed(0, 5), 4);
        x.kind(0, 0);
        Check.due("what the text ahead told is gone", x.said(0, 3), 5);
    }

    private static void person() {
        DeedNames x = Check.laid("n0,0125,9,8;n1,0125,99,0;n2,0125,0,9;n3,0125,7,3;n1,5,1,1;s0,2;s5,7;");
        int[][] due = {{0, 9, 8, 4, 4, 11}, {1, 99, 0, 4, 3, 4}, {2, 0, 9, 4, 8, 22}, {3, 7, 3, 4, 8, 44}, {1, 1, 1, 1, 1, 7}};
        for (int i = 0; i < due.length; i++) {
            for (int what = 0; what < 6; what++) {
                Check.due("person " + i + ", " + what, x.person(i, what), due[i][what]);
            }
            Check.due("person, 6", x.person(i, 6), BAD);
            Check.due("person, -1", x.person(i, -1), BAD);
        }
        Check.due("person 5", x.person(5, 0), BAD);
        Check.due("person -1", x.person(-1, 0), BAD);
        Check.due("person greatest", x.person(Integer.MAX_VALUE, 0), BAD);
    }

    private static void said() {
        DeedNames x = Check.laid("n0,0125,9,8;n1,0125,99,0;n2,013,0,9;n3,52,7,3;n1,4,1,1;");
        String[] due = {"0125", "012", "013013", "5252", "4"};
        for (int i = 0; i < due.length; i++) {
            for (int k = 0; k < 20; k++) {
                int want = k < due[i].length() ? due[i].charAt(k) - '0' : NONE;
                Check.due("said " + i + ", " + k, x.said(i, k), want);
            }
            Check.due("said -1", x.said(i, -1), BAD);
            Check.due("said 20", x.said(i, 20), BAD);
        }
        Check.due("said of none", x.said(5, 0), BAD);
        Check.due("said of -1", x.said(-1, 0), BAD);
        for (int d = 0; d < 7; d++) {
            x.deed(2, d % 6);
        }
        Check.due("LONG", x.person(2, 4), 20);
        Check.due("said 9", x.said(2, 9), 0);
        Check.due("said 10", x.said(2, 10), 0);
        Check.due("said 12", x.said(2, 12), 3);
        Check.due("said 19", x.said(2, 19), 0);
    }

    private static void deed() {
        DeedNames x = Check.laid("n0,3,0,0;n1,012345,0,0;l0,4;l1,2;l1,5;k2;k3;l3,1;");
        Check.due("deed of none", x.deed(2, 0), BAD);
        Check.due("deed of -1", x.deed(-1, 0), BAD);
        Check.due("deed 6", x.deed(0, 6), BAD);
        Check.due("deed -1", x.deed(0, -1), BAD);
        Check.due("nothing changed", x.person(0, 3), 1);
        Check.due("shame of one", x.deed(0, 2), 1);
        Check.due("deed 0", x.deed(0, 0), 2);
        Check.due("deed 1", x.deed(0, 1), 3);
        Check.due("deed 5", x.deed(0, 5), 4);
        int[] due = {3, 4, 5, 5};
        for (int k = 0; k < 4; k++) {
            Check.due("said " + k, x.said(0, k), due[k]);
        }
        Check.due("shame that is worth something", x.deed(0, 3), 3);
        Check.due("its last one is gone", x.said(0, 3), NONE);
        Check.due("said 2", x.said(0, 2), 5);
        for (int n = 7; n <= 10; n++) {
            Check.due("deed 4", x.deed(1, 4), n);
        }
        Check.due("deed at 10", x.deed(1, 4), FULL);
        Check.due("bad ahead of full", x.deed(1, 6), BAD);
        Check.due("still 10", x.person(1, 3), 10);
        Check.due("shame at 10", x.deed(1, 2), 9);
        Check.due("deed at 9", x.deed(1, 1), 10);
        Check.due("the other is as it was", x.person(0, 3), 3);
    }

    private static void kind() {
        DeedNames x = Check.laid("n0,345,9,8;n1,0125,99,0;");
        Check.due("kind of none", x.kind(2, 0), BAD);
        Check.due("kind of -1", x.kind(-1, 0), BAD);
        Check.due("kind 4", x.kind(0, 4), BAD);
        Check.due("kind -1", x.kind(0, -1), BAD);
        Check.due("kind 0 to 3", x.kind(0, 3), 0);
        Check.due("LONG", x.person(0, 4), 6);
        Check.due("beats", x.person(0, 5), 12);
        Check.due("kind 3 to 2", x.kind(0, 2), 3);
        Check.due("beats", x.person(0, 5), 6);
        Check.due("kind 2 to 1", x.kind(0, 1), 2);
        Check.due("LONG", x.person(0, 4), 2);
        Check.due("kind 1 to 1", x.kind(0, 1), 1);
        Check.due("kind 1 to 0", x.kind(0, 0), 1);
        Check.due("the other", x.person(1, 0), 1);
        Check.due("the NAME stays", x.person(0, 3), 3);
    }
}
