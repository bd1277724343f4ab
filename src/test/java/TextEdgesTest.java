/** The edges of a TEXT, sentence by sentence of the document: promises 1 to 5. */
public final class TextEdgesTest {
    private static final int BAD = Check.BAD, NO = Check.NO, FULL = Check.FULL, NONE = Check.NONE;
    /** What a new object has: PERSONS, HEARD, bytes, KEPT, B, V, M. */
    private static final int[] FIRST_COUNTS = {1, 0, 0, 0, 4, 3, 1};
    private static final String[] ITEMS = {"n0,01,5,0;", "l1,1;", "k1;", "s1,1;", "b1,1;", "m1;"};

    /** A number of an ITEM: what stands ahead of it and behind it, from where to where it is told. */
    private record Slot(String ahead, String behind, int least, int most) {
    }

    private static final Slot[] SLOTS = {
        new Slot("n", ",01,5,0;", 0, 3), new Slot("n0,01,", ",0;", 0, 99), new Slot("n0,01,5,", ";", 0, 9),
        new Slot("l", ",1;", 0, 5), new Slot("l1,", ";", 0, 5), new Slot("k", ";", 0, 5),
        new Slot("s", ",1;", 0, 5), new Slot("s1,", ";", 1, 9),
        new Slot("b", ",3;", 1, 12), new Slot("b4,", ";", 0, 20), new Slot("m", ";", 0, 9)};

    public static void main(String[] args) {
        newObject();
        twoObjects();
        bytesOfWrite();
        highestFirst();
        behindTheText();
        fullText();
        wipe();
        nothingIsNoFault();
        letters();
        parted();
        endOfItems();
        figures();
        zerosAhead();
        numbersThatAreTold();
        syllablesOfNames();
        eightPersons();
        firstFault();
        without();
        lastOneOfEach();
        shames();
        layNothing();
        layPersons();
        layClears();
        Check.end();
    }

    private static void fine(String item) {
        Check.faultDue(item, NONE);
        Check.faultDue("k1;" + item + "k2;", NONE);
    }

    /** Alone, behind another ITEM and ahead of one. */
    private static void faulty(String item) {
        Check.faultDue(item, 0);
        Check.faultDue("k1;" + item, 3);
        Check.faultDue("k1;" + item + "k2;", 3);
    }

    private static DeedNames written(String text) {
        DeedNames x = new DeedNames();
        Check.write(x, text);
        return x;
    }

    /** A text of so many bytes, without fault: k1; as often as it fits, l1,1; for what is left. */
    private static String ofBytes(int bytes) {
        int longer = bytes * 2 % 3;
        return "l1,1;".repeat(longer) + "k1;".repeat((bytes - 5 * longer) / 3);
    }

    // ---- promise 1

    private static void newObject() {
        Check.about("at first n0,01,5,0;");
        for (int what = 0; what < FIRST_COUNTS.length; what++) {
            Check.due("count " + what, new DeedNames().count(what), FIRST_COUNTS[what]);
        }
        int[] person = {0, 5, 0, 2, 2, 2};
        for (int what = 0; what < person.length; what++) {
            Check.due("person 0, " + what, new DeedNames().person(0, what), person[what]);
        }
        Check.due("said 0", new DeedNames().said(0, 0), 0);
        Check.due("said 1", new DeedNames().said(0, 1), 1);
        Check.due("said 2", new DeedNames().said(0, 2), NONE);
        Check.due("no second person", new DeedNames().person(1, 0), BAD);
        Check.due("THE TEXT is empty, not laid again", new DeedNames().lay(), NO);
        Check.due("no fault", new DeedNames().fault(), NONE);
        Check.due("nothing to wipe", new DeedNames().wipe(), 0);
        Check.due("nothing to forget", new DeedNames().forget(), 0);
        Check.due("nothing kept", new DeedNames().back(), NO);
        for (int d = 0; d < 6; d++) {
            DeedNames x = new DeedNames();
            Check.due("no shame, deed " + d, x.deed(0, d), 3);
            Check.due("worth of deed " + d, x.said(0, 2), d);
            Check.due("one beat", x.person(0, 5), 3);
        }
    }

    private static void twoObjects() {
        Check.about("A new object");
        DeedNames x = written("n2,5,1,1;b9,9;m9;");
        DeedNames y = new DeedNames();
        x.lay();
        x.hear(1);
        x.keep();
        for (int what = 0; what < FIRST_COUNTS.length; what++) {
            Check.due("another object's count " + what, y.count(what), FIRST_COUNTS[what]);
            Check.due("a later object's count " + what, new DeedNames().count(what), FIRST_COUNTS[what]);
        }
        Check.due("another object's person", y.person(0, 0), 0);
    }

    // ---- promise 2

    private static void bytesOfWrite() {
        Check.about("n bytes (1 to 8) of v");
        Check.onlyTold("write", 1, 8, n -> new DeedNames().write(n, 0));
        for (int n = 1; n <= 8; n++) {
            DeedNames x = new DeedNames();
            Check.due("write " + n, x.write(n, -1), n);
            Check.due("bytes", x.count(2), n);
        }
        Check.about("BAD: nothing changes then");
        int[] bad = {0, 9, -1, Integer.MIN_VALUE, Integer.MAX_VALUE};
        for (int n : bad) {
            DeedNames x = written("k1;");
            Check.due("write " + n, x.write(n, 0), BAD);
            Check.due("bytes", x.count(2), 3);
            Check.due("fault", x.fault(), NONE);
        }
    }

    private static void highestFirst() {
        Check.about("of v, the highest first");
        // n0,345,6: cut in two at every place, the bytes above the ones that are asked for are others
        long whole = 0x6e302c3334352c36L;
        for (int n = 1; n <= 7; n++) {
            DeedNames x = new DeedNames();
            int rest = 8 - n;
            long above = -1L << 8 * n;
            Check.due("write " + n, x.write(n, whole >>> 8 * rest | above), n);
            Check.due("write the other " + rest, x.write(rest, whole), 8);
            Check.due("write ,7;", x.write(3, 0x12345678902c373bL), 11);
            Check.due("lay", x.lay(), 1);
            Check.due("X", x.person(0, 1), 6);
            Check.due("RANK", x.person(0, 2), 7);
            for (int k = 0; k < 3; k++) {
                Check.due("said " + k, x.said(0, k), 3 + k);
            }
        }
        Check.about("bytes: above 127, too, and 0");
        for (int c = 128; c < 256; c++) {
            DeedNames x = new DeedNames();
            x.write(8, (long) c << 56 | 0x6b313b6b323b6bL);
            Check.due("fault", x.fault(), 0);
            x.wipe();
            x.write(4, 0x6b313b00L | c);
            Check.due("fault", x.fault(), 3);
        }
        DeedNames x = new DeedNames();
        Check.due("bytes of 0 count", x.write(8, 0), 8);
        Check.due("fault", x.fault(), 0);
    }

    private static void behindTheText() {
        Check.about("come behind THE TEXT: how long it is");
        DeedNames x = new DeedNames();
        String text = "n0,01,5,0;k1;l1,1;";
        for (int k = 0; k < text.length(); k++) {
            Check.due("write", x.write(1, text.charAt(k)), k + 1);
        }
        Check.due("fault", x.fault(), NONE);
        Check.due("lay", x.lay(), 1);
        Check.due("behind lay, too", x.write(1, 'x'), 19);
        Check.due("fault", x.fault(), 18);
    }

    private static void fullText() {
        Check.about("A TEXT is bytes (400 at most)");
        for (int n = 1; n <= 8; n++) {
            DeedNames x = written(ofBytes(400 - n));
            Check.due("write the last " + n, x.write(n, 0x6b313b6b313b6b31L), 400);
            for (int more = 1; more <= 8; more++) {
                Check.due("write " + more + " more", x.write(more, 0), FULL);
            }
            Check.due("bytes", x.count(2), 400);
            Check.due("bad ahead of full", x.write(0, 0), BAD);
            Check.due("bad ahead of full", x.write(9, 0), BAD);
        }
        Check.about("FULL: nothing changes then");
        for (int n = 2; n <= 8; n++) {
            DeedNames x = written(ofBytes(401 - n));
            Check.due("write one too many", x.write(n, 0), FULL);
            Check.due("bytes", x.count(2), 401 - n);
            Check.due("fault", x.fault(), NONE);
            Check.due("all but one fit", x.write(n - 1, 0), 400);
            Check.due("fault", x.fault(), 401 - n);
        }
        Check.about("A TEXT is bytes (400 at most): all are read");
        DeedNames x = written(ofBytes(400));
        Check.due("fault of 400", x.fault(), NONE);
        DeedNames y = written(ofBytes(390) + "n3,5,99,9;");
        Check.due("lay of 400", y.lay(), 1);
        Check.due("RANK", y.person(0, 2), 9);
        Check.faultDue(ofBytes(399) + "k", 399);
        Check.faultDue(ofBytes(391) + "n3,5,99,9", 391);
    }

    // ---- promise 3

    private static void wipe() {
        Check.about("THE TEXT is empty: how long it was");
        int[] sizes = {1, 8, 9, 399, 400};
        for (int size : sizes) {
            DeedNames x = written("x".repeat(size));
            Check.due("wipe", x.wipe(), size);
            Check.due("bytes", x.count(2), 0);
            Check.due("fault of nothing", x.fault(), NONE);
            Check.due("wipe nothing", x.wipe(), 0);
            Check.due("from its beginning again", x.write(3, 0x6b313b), 3);
            Check.due("fault", x.fault(), NONE);
        }
        DeedNames x = written("n1,012,7,8;");
        x.lay();
        x.hear(1);
        x.keep();
        x.wipe();
        Check.due("what is laid stays", x.person(0, 2), 8);
        Check.due("what was heard stays", x.count(1), 1);
        Check.due("what is kept stays", x.count(3), 1);
    }

    // ---- promise 4: what a TEXT is

    private static void nothingIsNoFault() {
        Check.about("FAULT. NONE.");
        Check.faultDue("", NONE);
        for (String item : ITEMS) {
            fine(item);
            for (String other : ITEMS) {
                Check.faultDue(item + other, NONE);
            }
        }
    }

    private static void letters() {
        Check.about("each a letter");
        for (char letter = 0; letter < 256; letter++) {
            Check.faultDue(letter + "0,01,5,0;", letter == 'n' ? NONE : 0);
            Check.faultDue(letter + "1,1;", letter == 'l' || letter == 's' || letter == 'b' ? NONE : 0);
            Check.faultDue("k1;" + letter + "1;", letter == 'k' || letter == 'm' ? NONE : 3);
        }
        Check.about("ITEMS one behind the other");
        for (char between = 0; between < 256; between++) {
            Check.faultDue("k1;" + between + "k2;", 3);
            Check.faultDue("k1;" + between, 3);
        }
        Check.faultDue(" k1;", 0);
    }

    private static void parted() {
        Check.about("numbers parted by , and ;");
        for (String item : ITEMS) {
            for (int at = 1; at < item.length(); at++) {
                char sign = item.charAt(at);
                for (char other = 0; other < 256; other++) {
                    if ((sign == ',' || sign == ';') && other != sign) {
                        Check.faultDue(item.substring(0, at) + other + item.substring(at + 1), 0);
                    }
                }
            }
            String body = item.substring(0, item.length() - 1);
            faulty(body + ",1;");
            faulty(body + ",;");
            faulty(body + ",");
            Check.faultDue(item + ";", item.length());
        }
        Check.about("as many numbers as are told");
        String[] wanting = {"n;", "n0;", "n0,01;", "n0,01,5;", "l;", "l1;", "k;", "s;", "s1;", "b;", "b1;", "m;"};
        for (String item : wanting) {
            faulty(item);
        }
    }

    private static void endOfItems() {
        Check.about("; (behind the last one, too)");
        for (String item : ITEMS) {
            for (int size = 1; size < item.length(); size++) {
                faulty(item.substring(0, size));
            }
        }
    }

    private static void figures() {
        Check.about("numbers have one to three figures");
        for (Slot slot : SLOTS) {
            String least = "" + slot.least;
            String most = "" + slot.most;
            faulty(slot.ahead + slot.behind);
            fine(slot.ahead + "00".substring(least.length() - 1) + least + slot.behind);
            fine(slot.ahead + "00".substring(most.length() - 1) + most + slot.behind);
            faulty(slot.ahead + "000".substring(least.length() - 1) + least + slot.behind);
            faulty(slot.ahead + "000".substring(most.length() - 1) + most + slot.behind);
            String[] none = {"-1", "+1", " 1", "1 ", "1.", "a", "1a", "/", ":", "1/", "1:", "\u00b1", "1,", ",1"};
            for (String number : none) {
                faulty(slot.ahead + number + slot.behind);
            }
        }
    }

    private static void zerosAhead() {
        Check.about("numbers have one to three figures: zeros ahead are figures, and the number is the same");
        for (String ahead : new String[] {"", "0", "00"}) {
            for (int number = 0; number <= 99 && ahead.length() + ("" + number).length() <= 3; number++) {
                String told = ahead + number;
                Check.due("X told by " + told, Check.laid("n0,01," + told + ",0;").person(0, 1), number);
                if (number >= 1 && number <= 12) {
                    Check.due("B told by " + told, Check.laid("n0,01,5,0;b" + told + ",1;").count(4), number);
                }
                if (number <= 20) {
                    Check.due("V told by " + told, Check.laid("n0,01,5,0;b1," + told + ";").count(5), number);
                }
                if (number <= 9) {
                    zerosAheadOfOneFigure(told, number);
                }
            }
        }
    }

    private static void zerosAheadOfOneFigure(String told, int number) {
        Check.due("RANK told by " + told, Check.laid("n0,01,5," + told + ";").person(0, 2), number);
        Check.due("M told by " + told, Check.laid("n0,01,5,0;m" + told + ";").count(6), number);
        if (number >= 1) {
            Check.due("beats told by " + told, Check.laid("n0,5,5,0;s005," + told + ";").person(0, 5), number);
        }
        if (number <= 3) {
            Check.due("KIND told by " + told, Check.laid("n" + told + ",01,5,0;").person(0, 0), number);
        }
        if (number <= 5) {
            DeedNames x = Check.laid("n0,01,5,0;l" + told + ",04;l4," + told + ";");
            x.deed(0, number);
            x.deed(0, 4);
            Check.due("worth of DEED " + told, x.said(0, 2), 4);
            Check.due("worth told by " + told, x.said(0, 3), number);
            Check.due("shame told by " + told, Check.laid("n0,01,5,0;k" + told + ";").deed(0, number), 1);
            DeedNames y = Check.laid("n0," + number + ",5,0;s" + told + ",9;");
            Check.due("beats of SYLLABLE " + told, y.person(0, 5), 9);
        }
    }

    private static void numbersThatAreTold() {
        for (Slot slot : SLOTS) {
            Check.about(slot.ahead + ".. (" + slot.least + " to " + slot.most + ")");
            for (int number = 0; number <= 999; number++) {
                boolean told = number >= slot.least && number <= slot.most;
                Check.faultDue("k1;" + slot.ahead + number + slot.behind, told ? NONE : 3);
            }
            // what a byte, or a number of 16 bits, would take for a number that is told
            faulty(slot.ahead + (256 + slot.most) + slot.behind);
            faulty(slot.ahead + (65536 + slot.most) + slot.behind);
            faulty(slot.ahead + (4294967296L + slot.most) + slot.behind);
        }
    }

    private static void syllablesOfNames() {
        Check.about("F: one to six figures");
        faulty("n0,,5,0;");
        for (int size = 1; size <= 9; size++) {
            if (size <= 6) {
                fine("n0," + "5".repeat(size) + ",5,0;");
                Check.due("size", Check.laid("n0," + "5".repeat(size) + ",5,0;").person(0, 3), size);
                Check.due("zeros are SYLLABLES", Check.laid("n0," + "0".repeat(size) + ",5,0;").person(0, 3), size);
            } else {
                faulty("n0," + "5".repeat(size) + ",5,0;");
                faulty("n0," + "0".repeat(size) + ",5,0;");
            }
        }
        Check.about("each a SYLLABLE (0 to 5)");
        for (int at = 0; at < 6; at++) {
            for (char figure = 0; figure < 256; figure++) {
                String name = "000000".substring(0, at) + figure + "00000".substring(at);
                Check.faultDue("n0," + name + ",5,0;", figure >= '0' && figure <= '5' ? NONE : 0);
            }
        }
        Check.about("in their order");
        DeedNames x = Check.laid("n0,504132,5,0;");
        int[] due = {5, 0, 4, 1, 3, 2, NONE};
        for (int k = 0; k < due.length; k++) {
            Check.due("said " + k, x.said(0, k), due[k]);
        }
    }

    private static void eightPersons() {
        Check.about("8 at most");
        String eight = "n0,0,0,0;".repeat(8);
        Check.faultDue(eight, NONE);
        Check.faultDue(eight + "n0,0,0,0;", 72);
        Check.faultDue(eight + "k1;n0,0,0,0;k2;", 75);
        Check.faultDue(eight + "n0,0,0,0;x", 72);
        Check.faultDue(eight + "k1;k6;n0,0,0,0;", 75);
        Check.faultDue("k1;".repeat(8) + eight + "m1;", NONE);
        DeedNames x = written(eight + "n0,0,0,0;");
        Check.due("lay of nine", x.lay(), NO);
        Check.due("PERSONS", x.count(0), 1);
    }

    private static void firstFault() {
        Check.about("FAULT: the place of the first byte of the first ITEM that is not so");
        Check.faultDue("x", 0);
        Check.faultDue("k6;x", 0);
        Check.faultDue("k1;k6;k7;", 3);
        Check.faultDue("k1;l1,6;k7;", 3);
        Check.faultDue("k1;n0,01,5,10;", 3);
        Check.faultDue("n0,01,5,0;n0,01,5", 10);
        Check.faultDue("k1;k1;k1;k1;k1;xk1;", 15);
        for (int items = 0; items <= 131; items++) {
            Check.faultDue("k1;".repeat(items) + "b0,3;", 3 * items);
        }
    }

    // ---- what is told without an ITEM, and by several

    private static void without() {
        Check.about("lD,S (D without)");
        for (int d = 0; d < 6; d++) {
            DeedNames x = Check.laid("n0,0,5,0;");
            x.deed(0, d);
            Check.due("worth of " + d, x.said(0, 1), d);
        }
        Check.about("sS,L (1 without)");
        for (int s = 0; s < 6; s++) {
            Check.due("beats of " + s, Check.laid("n0," + s + ",5,0;").person(0, 5), 1);
        }
        Check.about("bB,V (4, 3 without)");
        Check.due("B", Check.laid("n0,0,5,0;").count(4), 4);
        Check.due("V", Check.laid("n0,0,5,0;").count(5), 3);
        Check.about("mM (1 without)");
        Check.due("M", Check.laid("n0,0,5,0;").count(6), 1);
        Check.about("without: also behind a TEXT that told it");
        DeedNames x = Check.laid("n0,0,5,0;l0,1;l5,1;k2;s0,9;s5,9;b12,20;m9;");
        x.wipe();
        Check.write(x, "n0,05,5,0;");
        for (int times = 0; times < 3; times++) {
            Check.due("lay", x.lay(), 1);
            Check.due("beats", x.person(0, 5), 2);
            Check.due("B", x.count(4), 4);
            Check.due("V", x.count(5), 3);
            Check.due("M", x.count(6), 1);
            int[] deeds = {0, 5, 2};
            for (int k = 0; k < deeds.length; k++) {
                Check.due("deed", x.deed(0, deeds[k]), 3 + k);
                Check.due("worth", x.said(0, 2 + k), deeds[k]);
            }
        }
    }

    private static void lastOneOfEach() {
        Check.about("lD,S (the last one of each)");
        DeedNames x = Check.laid("l1,2;l2,3;l1,5;n0,0,5,0;l5,1;l5,0;");
        int[] deeds = {0, 1, 2, 3, 4, 5};
        int[] worth = {0, 5, 3, 3, 4, 0};
        for (int k = 0; k < deeds.length; k++) {
            x.deed(0, deeds[k]);
            Check.due("worth of " + deeds[k], x.said(0, 1 + k), worth[k]);
        }
        Check.about("sS,L (the last one of each)");
        int[] beats = {9, 1, 2, 1, 1, 7};
        for (int s = 0; s < 6; s++) {
            DeedNames y = Check.laid("s0,1;s5,3;s0,9;n0," + s + ",5,0;s2,4;s2,2;s5,7;");
            Check.due("beats of " + s, y.person(0, 5), beats[s]);
        }
        Check.about("bB,V (the last one)");
        DeedNames z = Check.laid("b12,20;n0,0,5,0;b9,8;b1,0;m9;m3;m0;");
        Check.due("B", z.count(4), 1);
        Check.due("V", z.count(5), 0);
        Check.about("mM (the last one)");
        Check.due("M", z.count(6), 0);
    }

    private static void shames() {
        Check.about("kD DEED D (0 to 5) is a shame");
        for (int d = 0; d < 6; d++) {
            DeedNames x = Check.laid("n0,012345,5,0;k" + d + ";");
            for (int other = 0; other < 6; other++) {
                int size = x.person(0, 3);
                Check.due("deed " + other, x.deed(0, other), other == d ? size - 1 : Math.min(10, size + 1));
                x.lay();
            }
        }
        Check.about("by a shame (told or not what it is worth)");
        String[] texts = {"n0,012,5,0;k1;", "n0,012,5,0;k1;l1,4;", "l1,4;n0,012,5,0;k1;", "k1;k1;n0,012,5,0;l1,1;"};
        for (String text : texts) {
            DeedNames x = Check.laid(text);
            Check.due("deed 1 of " + text, x.deed(0, 1), 2);
            Check.due("its last one is gone", x.said(0, 2), NONE);
            Check.due("the one ahead of it is there", x.said(0, 1), 1);
        }
    }

    // ---- promise 5

    private static void layNothing() {
        Check.about("LAID is a TEXT without FAULT, of a PERSON at least (NO else)");
        String[] texts = {"", "k1;", "l1,1;k1;s1,1;b1,1;m1;", "n0,01,5,0", "n0,01,5,0;x", "xn0,01,5,0;", "n0,01,5,0;k6;", "n4,01,5,0;",
            "n0,01,5,0;".repeat(8) + "n0,01,5,0;", ofBytes(400)};
        for (String text : texts) {
            DeedNames x = written(text);
            Check.due("lay of " + text, x.lay(), NO);
            int[] counts = FIRST_COUNTS.clone();
            counts[2] = text.length();
            for (int what = 0; what < counts.length; what++) {
                Check.due("nothing changes, count " + what, x.count(what), counts[what]);
            }
            Check.due("X as it was", x.person(0, 1), 5);
            Check.due("no second person", x.person(1, 1), BAD);
        }
    }

    private static void layPersons() {
        Check.about("LAID: how many PERSONS; 0, 1, ..");
        StringBuilder text = new StringBuilder();
        for (int n = 1; n <= 8; n++) {
            text.append("n0,").append("5".repeat(n > 6 ? 1 : n)).append(',').append(90 + n).append(',').append(n).append(";k0;");
            DeedNames x = written(text.toString());
            Check.due("lay", x.lay(), n);
            Check.due("PERSONS", x.count(0), n);
            for (int i = 0; i < n; i++) {
                Check.due("X of " + i, x.person(i, 1), 91 + i);
                Check.due("RANK of " + i, x.person(i, 2), 1 + i);
            }
            Check.due("no more", x.person(n, 1), BAD);
            Check.due("THE TEXT stays", x.count(2), text.length());
        }
        DeedNames x = written(text.toString());
        x.lay();
        x.wipe();
        Check.write(x, "n3,012,1,2;");
        Check.due("fewer than were there", x.lay(), 1);
        Check.due("the second is gone", x.person(1, 0), BAD);
        Check.due("sets are of the first alone", x.cry(2), BAD);
        Check.due("years are of the first alone", x.years(0, 0, 0), 12 + 3);
    }

    private static void layClears() {
        Check.about("LAID: nothing HEARD, KEPT");
        for (int kept = 0; kept <= 2; kept++) {
            DeedNames x = written("n0,01,5,0;n1,3,9,9;");
            Check.due("lay", x.lay(), 2);
            x.hear(9);
            x.hear(9);
            for (int k = 0; k < kept; k++) {
                x.keep();
            }
            x.deed(0, 2);
            x.kind(1, 2);
            Check.due("lay again", x.lay(), 2);
            Check.due("HEARD", x.count(1), 0);
            Check.due("nobody is meant", x.meant(), NONE);
            Check.due("KEPT", x.count(3), 0);
            Check.due("back", x.back(), NO);
            Check.due("NAME as it is told", x.person(0, 3), 2);
            Check.due("KIND as it is told", x.person(1, 0), 1);
            Check.due("keep anew", x.keep(), 1);
            Check.due("hear anew", x.hear(0), 1);
        }
    }
}
