/** The edges of SHORT calls and of the SYLLABLE that keeps them apart, sentence by sentence: promises 14 to 16. */
public final class CallEdgesTest {
    private static final int BAD = Check.BAD, FULL = Check.FULL, NONE = Check.NONE;

    public static void main(String[] args) {
        ofTheSet();
        alone();
        leastCall();
        noCall();
        othersOfTheSet();
        drummed();
        allShort();
        whatOfApart();
        apartOfLength();
        apartLeast();
        apartNone();
        apartOfKinds();
        apartChangesNothing();
        Check.end();
    }

    private static DeedNames grown(String text, int deed, int times) {
        DeedNames x = Check.laid(text);
        for (int k = 0; k < times; k++) {
            x.deed(0, deed);
        }
        return x;
    }

    private static void ofTheSet() {
        Check.about("BAD (not of the set, too)");
        DeedNames x = Check.laid("n0,0,0,0;n0,1,0,0;n0,2,0,0;n0,3,0,0;n0,4,0,0;");
        for (int set = 1; set < 32; set++) {
            for (int i = 0; i < 5; i++) {
                boolean in = (set >> i & 1) == 1;
                Check.due("shortCall " + i + " in " + set, x.shortCall(i, set), in ? 1 : BAD);
            }
        }
        DeedNames y = Check.laid("n0,0,0,0;n0,1,0,0;n0,2,0,0;n0,3,0,0;");
        for (int set = 1; set < 16; set++) {
            for (int i = 0; i < 4; i++) {
                boolean in = (set >> i & 1) == 1;
                Check.due("apart " + i + " in " + set, y.apart(i, set, 0), in ? 0 : BAD);
                Check.due("apart " + i + " in " + set, y.apart(i, set, 1), in ? Integer.bitCount(set) : BAD);
            }
        }
        Check.about("BAD: a PERSON that is not there, in a set that is");
        int[] nobody = {-1, 4, 5, 31, 32, 33, 64, -32, -31, Integer.MIN_VALUE, Integer.MAX_VALUE};
        for (int i : nobody) {
            Check.due("shortCall " + i, y.shortCall(i, 15), BAD);
            Check.due("apart " + i, y.apart(i, 15, 0), BAD);
        }
        Check.about("BAD: a PERSON that is there, in a set that is none");
        int[] none = {0, 16, 17, -1, Integer.MIN_VALUE | 1, Integer.MAX_VALUE};
        for (int set : none) {
            Check.due("shortCall among " + set, y.shortCall(0, set), BAD);
            Check.due("apart among " + set, y.apart(0, set, 0), BAD);
            Check.due("allShort of " + set, y.allShort(set), BAD);
        }
    }

    private static void alone() {
        Check.about("SHORT is the least k (1 to LONG) by which no other one of the set answers: there is no other");
        for (int times = 0; times < 10; times++) {
            DeedNames x = grown("n0,0,0,0;n0,0,0,0;", 1, times);
            Check.due("PLAIN", x.shortCall(0, 1), 1);
            x.kind(0, 1);
            Check.due("SHAMED", x.shortCall(0, 1), 1);
            x.kind(0, 2);
            Check.due("DOUBLE", x.shortCall(0, 1), 1);
            x.kind(0, 3);
            Check.due("DRUMMED by all that is SAID", x.shortCall(0, 1), 2 * (times + 1));
            Check.due("ALL SHORT", x.allShort(1), 2 * (times + 1));
        }
    }

    private static void leastCall() {
        Check.about("SHORT is the least k (1 to LONG)");
        String[] others = {"5", "05", "015", "0125", "01235", "012305"};
        for (int k = 1; k <= 6; k++) {
            DeedNames x = Check.laid("n0,012304,0,0;n0," + others[k - 1] + ",0,0;");
            Check.due("against " + others[k - 1], x.shortCall(0, 3), k);
            Check.due("the other one", x.shortCall(1, 3), k);
            Check.due("both", x.allShort(3), 2 * k);
        }
        DeedNames x = Check.laid("n2,0,0,0;n2,0,0,0;");
        for (int d = 0; d < 9; d++) {
            x.deed(0, 1);
            x.deed(1, d == 8 ? 2 : 1);
        }
        Check.due("by the tenth of twenty", x.shortCall(0, 3), 10);
        DeedNames y = Check.laid("n2,012345,0,0;n0,012345,0,0;");
        y.deed(1, 0);
        Check.due("by the eighth of twelve, behind all of the other", y.shortCall(0, 3), 8);
        Check.due("the other one is begun by it", y.shortCall(1, 3), NONE);
        y.deed(1, 2);
        Check.due("by the eighth of both", y.shortCall(1, 3), 8);
    }

    private static void noCall() {
        Check.about("SHORT: none");
        DeedNames x = Check.laid("n0,01,0,0;n0,01,0,0;n0,012,0,0;n1,015,0,0;n2,01,0,0;");
        Check.due("alike", x.shortCall(0, 3), NONE);
        Check.due("alike", x.shortCall(1, 3), NONE);
        Check.due("another one begins so", x.shortCall(0, 5), NONE);
        Check.due("one more SYLLABLE is enough", x.shortCall(2, 5), 3);
        Check.due("SHAMED, SAID alike", x.shortCall(3, 9), NONE);
        Check.due("PLAIN, SAID alike", x.shortCall(0, 9), NONE);
        Check.due("DOUBLE begins so", x.shortCall(0, 17), NONE);
        Check.due("DOUBLE goes on", x.shortCall(4, 17), 3);
        Check.due("of one SYLLABLE", Check.laid("n0,0,0,0;n0,01,0,0;").shortCall(0, 3), NONE);
    }

    private static void othersOfTheSet() {
        Check.about("others of the set answer");
        DeedNames x = Check.laid("n0,01,0,0;n0,01,0,0;n0,02,0,0;n0,1,0,0;");
        Check.due("who is not of the set does not answer", x.shortCall(0, 9), 1);
        Check.due("the second tells them apart", x.shortCall(0, 5), 2);
        Check.due("all others count, not the nearest", x.shortCall(0, 13), 2);
        Check.due("one that is alike", x.shortCall(0, 15), NONE);
        Check.due("the last one of the set", x.shortCall(3, 15), 1);
        DeedNames y = Check.laid("n0,0,0,0;".repeat(7) + "n0,5,0,0;");
        Check.due("the eighth", y.shortCall(7, 255), 1);
        Check.due("the seventh", y.shortCall(6, 255), NONE);
        Check.due("the seventh and the eighth", y.shortCall(6, 192), 1);
    }

    private static void drummed() {
        Check.about("(DRUMMED ones are called by all that is SAID, if no other one answers; none.)");
        Check.due("against another beginning", Check.laid("n3,01,0,0;n0,5,0,0;").shortCall(0, 3), 4);
        Check.due("against a shorter one", Check.laid("n3,01,0,0;n0,010,0,0;").shortCall(0, 3), 4);
        Check.due("against one that ends as it does", Check.laid("n3,01,0,0;n0,0101,0,0;").shortCall(0, 3), NONE);
        Check.due("against a longer one", Check.laid("n3,01,0,0;n0,01015,0,0;").shortCall(0, 3), NONE);
        Check.due("against one that ends otherwise", Check.laid("n3,01,0,0;n0,01025,0,0;").shortCall(0, 3), 4);
        Check.due("against a DOUBLE one", Check.laid("n3,01,0,0;n2,01,0,0;").shortCall(0, 3), NONE);
        Check.due("against a DRUMMED one", Check.laid("n3,01,0,0;n3,01,0,0;").shortCall(0, 3), NONE);
        Check.due("the others are called as ever", Check.laid("n3,01,0,0;n0,00,0,0;").shortCall(1, 3), 2);
        Check.due("a DRUMMED one answers, too", Check.laid("n3,01,0,0;n0,01,0,0;").shortCall(1, 3), NONE);
    }

    private static void allShort() {
        Check.about("ALL SHORT of a set: the sum");
        DeedNames x = Check.laid("n0,01,0,0;n0,02,0,0;n3,5,0,0;n0,3,0,0;n0,3,0,0;");
        Check.due("of one", x.allShort(8), 1);
        Check.due("of two", x.allShort(3), 4);
        Check.due("of three", x.allShort(7), 6);
        Check.due("of four", x.allShort(15), 7);
        Check.about("ALL SHORT: none (if one has none)");
        Check.due("of two alike", x.allShort(24), NONE);
        Check.due("of all", x.allShort(31), NONE);
        Check.due("the first has none", Check.laid("n0,0,0,0;n0,01,0,0;n0,5,0,0;").allShort(7), NONE);
        Check.due("the last has none", Check.laid("n0,5,0,0;n0,01,0,0;n0,0,0,0;").allShort(7), NONE);
        Check.about("ALL SHORT of the most that can be told");
        String[] firsts = {"0", "1", "2", "3", "4", "5", "01", "12"};
        StringBuilder text = new StringBuilder();
        for (String first : firsts) {
            text.append("n3,").append(first).append(",0,0;");
        }
        DeedNames y = Check.laid(text.toString());
        for (int i = 0; i < 8; i++) {
            for (int size = firsts[i].length(); size < 10; size++) {
                y.deed(i, 5);
            }
        }
        Check.due("eight of twenty", y.allShort(255), 160);
    }

    private static void whatOfApart() {
        Check.about("which (what = 0), the sum (1). BAD");
        Check.onlyTold("apart", 0, 1, what -> Check.laid("n0,0,0,0;").apart(0, 1, what));
        Check.onlyTold("apart of ten, bad ahead of full", 0, 1, what -> grown("n0,0,0,0;", 1, 9).apart(0, 1, what));
        Check.onlyTold("apart of alike ones, bad ahead of none", 0, 1, what -> Check.laid("n1,0,0,0;n1,0,0,0;").apart(0, 3, what));
    }

    private static void apartOfLength() {
        Check.about("come behind the NAME of a PERSON (of fewer than 10); FULL: its NAME has 10");
        for (int kind = 0; kind < 4; kind++) {
            for (int size = 1; size <= 10; size++) {
                DeedNames x = grown("n0,0,0,0;n0,5,0,0;n0,5,0,0;", 1, size - 1);
                x.kind(0, kind);
                int alone = kind == 3 ? 2 * (size + 1) : 1;
                Check.due("which, of " + size, x.apart(0, 1, 0), size < 10 ? 0 : FULL);
                Check.due("sum, of " + size, x.apart(0, 1, 1), size < 10 ? alone : FULL);
                Check.due("sum of two, of " + size, x.apart(0, 3, 1), size < 10 ? alone + 1 : FULL);
                Check.due("two others are alike, of " + size, x.apart(0, 7, 0), size < 10 ? NONE : FULL);
                Check.due("two others are alike, of " + size, x.apart(0, 7, 1), size < 10 ? NONE : FULL);
                Check.due("not of the set, of " + size, x.apart(0, 2, 0), BAD);
                Check.due("of the other one", x.apart(1, 3, 0), 0);
            }
        }
    }

    private static void apartLeast() {
        Check.about("makes ALL SHORT of a set (with it in) least, of several the lowest");
        for (int taken = 0; taken < 5; taken++) {
            StringBuilder text = new StringBuilder("n0,0,0,0;");
            for (int s = 0; s <= taken; s++) {
                text.append("n0,0").append(s).append(",0,0;");
            }
            DeedNames x = Check.laid(text.toString());
            int all = (1 << taken + 2) - 1;
            Check.due("the lowest that is left", x.apart(0, all, 0), taken + 1);
            Check.due("the sum", x.apart(0, all, 1), 2 * (taken + 2));
        }
        // 00 begins 001, so 0 makes none; 1 to 5 make 2 and 2
        DeedNames y = Check.laid("n0,0,0,0;n0,001,0,0;");
        Check.due("which", y.apart(0, 3, 0), 1);
        Check.due("the sum", y.apart(0, 3, 1), 4);
        DeedNames z = Check.laid("n0,5,0,0;n0,0,0,0;");
        Check.due("all six are as good: the lowest", z.apart(0, 3, 0), 0);
        Check.due("the sum", z.apart(0, 3, 1), 2);
        // DOUBLE 0 is SAID 0s0s then: 0 makes 4, 4 and 2, 1 makes none, 2 to 5 make 2, 2 and 2
        DeedNames w = Check.laid("n2,0,0,0;n0,00012,0,0;n0,01012,0,0;");
        Check.due("not the lowest, but the least", w.apart(0, 7, 0), 2);
        Check.due("the sum", w.apart(0, 7, 1), 6);
        Check.due("against the last one alone the lowest is as good", w.apart(0, 5, 0), 0);
        DeedNames last = Check.laid("n0,0,0,0;n0,00,0,0;n0,01,0,0;n0,02,0,0;n0,03,0,0;n0,04,0,0;");
        Check.due("the last one, 5", last.apart(0, 63, 0), 5);
    }

    private static void apartNone() {
        Check.about("APART: none");
        DeedNames x = Check.laid("n0,0,0,0;n0,00,0,0;n0,01,0,0;n0,02,0,0;n0,03,0,0;n0,04,0,0;n0,05,0,0;");
        Check.due("which", x.apart(0, 127, 0), NONE);
        Check.due("the sum", x.apart(0, 127, 1), NONE);
        Check.due("without one of them", x.apart(0, 125, 0), 0);
        DeedNames y = Check.laid("n0,0,0,0;n0,0,0,0;");
        Check.due("the other one begins it", y.apart(0, 3, 0), NONE);
        Check.due("the other one begins it", y.apart(1, 3, 1), NONE);
        DeedNames z = Check.laid("n0,5,0,0;n0,0,0,0;n0,0,0,0;");
        Check.due("two others are alike", z.apart(0, 7, 0), NONE);
    }

    private static void apartOfKinds() {
        Check.about("come behind the NAME: as it is SAID then");
        // SHAMED 012 is SAID 01, with any behind it 012
        DeedNames x = Check.laid("n1,012,0,0;n0,013,0,0;n0,012,0,0;");
        Check.due("SHAMED: what was not SAID is", x.apart(0, 3, 0), 0);
        Check.due("SHAMED: what was not SAID is", x.apart(0, 3, 1), 6);
        Check.due("SHAMED: what comes is not SAID", x.apart(0, 5, 0), NONE);
        DeedNames one = Check.laid("n1,0,0,0;n0,05,0,0;");
        Check.due("SHAMED of one: it stays as SAID", one.apart(0, 3, 0), NONE);
        DeedNames y = Check.laid("n3,0,0,0;n0,0,0,0;");
        // 0s0s of four, and 0 which begins it
        Check.due("DRUMMED: the other one begins it", y.apart(0, 3, 0), NONE);
        DeedNames z = Check.laid("n3,0,0,0;n0,01,0,0;");
        Check.due("DRUMMED", z.apart(0, 3, 0), 0);
        Check.due("DRUMMED: all that is SAID and two", z.apart(0, 3, 1), 6);
    }

    private static void apartChangesNothing() {
        Check.about("APART: which; nothing is done");
        DeedNames x = Check.laid("n0,0,0,0;n0,01,0,0;");
        Check.due("apart", x.apart(0, 3, 0), 0);
        Check.due("its NAME has", x.person(0, 3), 1);
        Check.due("ALL SHORT", x.allShort(3), NONE);
        Check.due("apart again", x.apart(0, 3, 0), 0);
    }
}
