/** Promises 10 to 16: cries, warnings, councils and short calls. */
public final class CallsTest {
    private static final int BAD = Check.BAD, FULL = Check.FULL, NONE = Check.NONE;

    public static void main(String[] args) {
        cry();
        warn();
        warnByBreaths();
        warnOrder();
        greet();
        greetLongNames();
        greetByRank();
        eight();
        shortCall();
        allShort();
        apart();
        apartOfKinds();
        Check.end();
    }

    private static void cry() {
        DeedNames x = Check.laid("n0,0123,0,0;n0,01,0,0;n3,02,0,0;n1,0011,0,0;s0,2;s2,5;b4,3;");
        Check.due("exactly a breath", x.cry(1), 2 + 1 + 5 + 1);
        Check.due("two names", x.cry(3), 9 + 3 + 3);
        Check.due("drummed, exactly a breath", x.cry(4), 28);
        Check.due("two breaths, both full", x.cry(5), 9 + 3 + 28);
        Check.due("a breath within a name", x.cry(6), 3 + 28 + 3);
        Check.due("shamed", x.cry(8), 5);
        Check.due("all", x.cry(15), 9 + 3 + 28 + 5 + 3 * 3);
        Check.due("empty", x.cry(0), BAD);
        Check.due("16", x.cry(16), BAD);
        Check.due("-1", x.cry(-1), BAD);
        Check.due("least", x.cry(Integer.MIN_VALUE), BAD);
        x.deed(0, 4);
        Check.due("one more syllable", x.cry(1), 9 + 1 + 3);
        DeedNames y = Check.laid("n2,012345,0,0;b1,20;");
        Check.due("a breath behind each", y.cry(1), 12 + 11 * 20);
        DeedNames z = Check.laid("n2,012345,0,0;b1,0;");
        Check.due("breaths for nothing", z.cry(1), 12);
    }

    private static void warn() {
        DeedNames x = Check.laid("n0,01,5,0;n0,23,5,0;n0,45,3,0;");
        Check.due("4, 0", x.warn(4, 0), 0);
        Check.due("4, 1", x.warn(4, 1), 0);
        Check.due("called", x.called(4, 0), NONE);
        Check.due("5, 1", x.warn(5, 1), 4);
        Check.due("6, 1", x.warn(6, 1), 4);
        Check.due("7, 0", x.warn(7, 0), 2);
        Check.due("7, 1: the lowest number", x.warn(7, 1), 5);
        Check.due("called", x.called(7, 0), 0);
        Check.due("called", x.called(7, 1), 2);
        Check.due("called", x.called(7, 2), NONE);
        Check.due("8, 1", x.warn(8, 1), 5);
        Check.due("9, 1", x.warn(9, 1), 3);
        Check.due("12, 0: a breath ahead of the third", x.warn(11, 0), 2);
        Check.due("12, 0", x.warn(12, 0), 3);
        Check.due("12, 1", x.warn(12, 1), 7);
        Check.due("called", x.called(12, 0), 0);
        Check.due("called", x.called(12, 1), 1);
        Check.due("called", x.called(12, 2), 2);
        Check.due("called", x.called(12, 3), NONE);
        Check.due("called", x.called(12, 7), NONE);
        Check.due("0, 0", x.warn(0, 0), 0);
        Check.due("999, 0", x.warn(999, 0), 3);
        Check.due("-1, 0", x.warn(-1, 0), BAD);
        Check.due("1000, 0", x.warn(1000, 0), BAD);
        Check.due("5, 2", x.warn(5, 2), BAD);
        Check.due("5, -1", x.warn(5, -1), BAD);
        Check.due("called -1", x.called(5, -1), BAD);
        Check.due("called 8", x.called(5, 8), BAD);
        Check.due("called by -1", x.called(-1, 0), BAD);
        Check.due("called by 1000", x.called(1000, 0), BAD);
        Check.due("called by 999", x.called(999, 7), NONE);
        Check.due("called by 0", x.called(0, 0), NONE);
    }

    private static void warnByBreaths() {
        DeedNames x = Check.laid("n0,0123,0,0;n0,4,0,0;b4,9;");
        Check.due("no breath behind its end", x.warn(4, 1), 1);
        Check.due("a breath ahead of the second", x.warn(13, 0), 1);
        Check.due("a breath ahead of the second", x.warn(14, 0), 2);
        Check.due("the first order", x.called(14, 0), 0);
        x.deed(0, 5);
        Check.due("a breath within the name", x.warn(13, 1), 2);
        Check.due("a breath within the name", x.warn(14, 1), 1);
    }

    private static void warnOrder() {
        DeedNames x = Check.laid("n0,012,0,0;n0,01,10,0;n0,0,2,0;b12,0;");
        Check.due("all", x.warn(12, 0), 3);
        int[] due = {1, 0, 2};
        for (int i = 0; i < 3; i++) {
            Check.due("who is far first, " + i, x.called(12, i), due[i]);
        }
        int[] wide = {0, 1, 2};
        for (int i = 0; i < 3; i++) {
            Check.due("wide, " + i, x.called(15, i), wide[i]);
        }
        Check.due("order by 13", x.called(13, 0), 1);
        Check.due("order by 14", x.called(14, 0), 1);
        x.kind(0, 2);
        Check.due("not all by 8", x.warn(8, 1), 5);
        Check.due("the only order by 8", x.called(8, 0), 2);
        Check.due("the only order by 8", x.called(8, 1), 0);
        Check.due("no third by 8", x.called(8, 2), NONE);
        Check.due("the first order by 9", x.called(9, 0), 0);
    }

    private static void greet() {
        DeedNames x = Check.laid("n0,012,0,0;n0,01,0,0;n0,0,0,0;n0,01,0,0;b4,3;");
        Check.due("fewest", x.greet(15, -1), 2);
        int[] due = {0, 2, 1, 3};
        for (int i = 0; i < 4; i++) {
            Check.due("greet " + i, x.greet(15, i), due[i]);
        }
        Check.due("greet 4", x.greet(15, 4), NONE);
        Check.due("greet 7", x.greet(15, 7), NONE);
        Check.due("greet 8", x.greet(15, 8), BAD);
        Check.due("greet -2", x.greet(15, -2), BAD);
        Check.due("greet none", x.greet(0, -1), BAD);
        Check.due("greet 16", x.greet(16, -1), BAD);
        Check.due("greet -1", x.greet(-1, 0), BAD);
        Check.due("two of four", x.greet(10, -1), 1);
        Check.due("the first of them", x.greet(10, 0), 1);
        Check.due("the second of them", x.greet(10, 1), 3);
        Check.due("no third of them", x.greet(10, 2), NONE);
    }

    private static void greetLongNames() {
        DeedNames x = Check.laid("n0,01234,0,0;n0,0,0,0;n0,0123,0,0;b4,3;");
        Check.due("a name goes on", x.greet(1, -1), 2);
        Check.due("the next one begins a breath", x.greet(3, -1), 3);
        Check.due("a full breath", x.greet(4, -1), 1);
        Check.due("behind a full one", x.greet(6, -1), 2);
        Check.due("all", x.greet(7, -1), 4);
        x.kind(2, 2);
        Check.due("twice a breath", x.greet(4, -1), 2);
        Check.due("and one", x.greet(6, -1), 3);
        DeedNames y = Check.laid("n0,0,0,0;n0,01234,0,0;n0,1,0,0;b4,3;");
        Check.due("between, it parts breaths", y.greet(7, -1), 3);
        Check.due("first", y.greet(7, 0), 0);
        Check.due("second", y.greet(7, 1), 2);
        Check.due("third", y.greet(7, 2), 1);
    }

    private static void greetByRank() {
        DeedNames x = Check.laid("n0,012,0,1;n0,01,0,9;n0,0,0,5;n0,01,0,5;b4,3;");
        int[] due = {1, 3, 2, 0};
        Check.due("fewest", x.greet(15, -1), 2);
        for (int i = 0; i < 4; i++) {
            Check.due("greet " + i, x.greet(15, i), due[i]);
        }
        DeedNames y = Check.laid("n0,0,0,5;n0,01234,0,4;n0,1,0,3;b4,3;");
        Check.due("rank asks for more breaths", y.greet(7, -1), 4);
        Check.due("the middle one", y.greet(7, 1), 1);
        Check.due("only the set's ranks", y.greet(6, 0), 1);
        Check.due("only the set's ranks", y.greet(4, 0), 2);
        Check.due("a council anew", y.greet(7, 0), 0);
        y.kind(2, 2);
        y.deed(2, 1);
        Check.due("as names stand now", y.greet(4, -1), 1);
        y.deed(2, 1);
        Check.due("as names stand now", y.greet(4, -1), 2);
        Check.due("as names stand now", y.greet(7, -1), 5);
    }

    /** All eight, each of one syllable: X asks for the opposite order. */
    private static void eight() {
        StringBuilder text = new StringBuilder();
        for (int i = 0; i < 8; i++) {
            text.append("n0,").append(i % 6).append(',').append(10 + i).append(",").append(i).append(';');
        }
        DeedNames x = Check.laid(text + "b12,0;");
        Check.due("all by 18", x.warn(18, 0), 8);
        Check.due("all by 18", x.warn(18, 1), 255);
        Check.due("not all by 17", x.warn(17, 0), 7);
        Check.due("the lowest seven", x.warn(17, 1), 127);
        Check.due("one by 11", x.warn(11, 1), 1);
        for (int i = 0; i < 8; i++) {
            Check.due("the far ones first", x.called(18, i), 7 - i);
            Check.due("in their order", x.called(999, i), i);
            Check.due("by rank", x.greet(255, i), 7 - i);
        }
        Check.due("in one breath", x.greet(255, -1), 1);
        Check.due("cry", x.cry(255), 8);
        Check.due("short", x.shortCall(7, 255), NONE);
        Check.due("short", x.shortCall(5, 255), 1);
        Check.due("no ninth", x.cry(256), BAD);
    }

    private static void shortCall() {
        DeedNames x = Check.laid("n0,0123,0,0;n0,0124,0,0;n0,01,0,0;n3,51,0,0;n2,01,0,0;n1,33,0,0;n0,3,0,0;");
        int[] due = {4, 4, NONE, 4, 3, NONE, NONE};
        for (int i = 0; i < due.length; i++) {
            Check.due("among all, " + i, x.shortCall(i, 127), due[i]);
        }
        Check.due("alone", x.shortCall(0, 1), 1);
        Check.due("alone, drummed", x.shortCall(3, 8), 4);
        Check.due("against a shorter one", x.shortCall(0, 5), 3);
        Check.due("against a longer one", x.shortCall(2, 5), NONE);
        Check.due("against another one", x.shortCall(2, 12), 1);
        Check.due("not of the set", x.shortCall(0, 2), BAD);
        Check.due("no person", x.shortCall(7, 127), BAD);
        Check.due("-1", x.shortCall(-1, 127), BAD);
        Check.due("32", x.shortCall(32, 127), BAD);
        Check.due("no set", x.shortCall(0, 0), BAD);
        Check.due("128", x.shortCall(0, 129), BAD);
        Check.due("set -1", x.shortCall(0, -1), BAD);
        x.kind(2, 3);
        Check.due("drummed as doubled", x.shortCall(2, 127), NONE);
        Check.due("doubled as drummed", x.shortCall(4, 127), NONE);
        Check.due("drummed against a plain one", x.shortCall(2, 5), 4);
    }

    private static void allShort() {
        DeedNames x = Check.laid("n0,0123,0,0;n0,0124,0,0;n0,01,0,0;n3,51,0,0;");
        Check.due("two", x.allShort(3), 8);
        Check.due("one has none", x.allShort(7), NONE);
        Check.due("with a drummed one", x.allShort(11), 12);
        Check.due("one", x.allShort(4), 1);
        Check.due("one, drummed", x.allShort(8), 4);
        Check.due("apart from the first", x.allShort(12), 5);
        Check.due("none", x.allShort(0), BAD);
        Check.due("16", x.allShort(16), BAD);
        Check.due("-1", x.allShort(-1), BAD);
    }

    private static void apart() {
        DeedNames x = Check.laid("n0,01,0,0;n0,01,0,0;n0,010,0,0;n0,55,0,0;n0,55,0,0;n0,550,0,0;");
        Check.due("alike, the other stays short of it", x.apart(0, 3, 0), NONE);
        Check.due("alike, the other stays short of it", x.apart(0, 3, 1), NONE);
        Check.due("another tail", x.apart(0, 5, 0), 1);
        Check.due("another tail", x.apart(0, 5, 1), 6);
        Check.due("alone, the lowest", x.apart(0, 1, 0), 0);
        Check.due("alone", x.apart(0, 1, 1), 1);
        Check.due("nothing is done", x.person(0, 3), 2);
        Check.due("two others are alike", x.apart(0, 25, 0), NONE);
        Check.due("not of the set", x.apart(0, 2, 0), BAD);
        Check.due("what 2", x.apart(0, 1, 2), BAD);
        Check.due("what -1", x.apart(0, 1, -1), BAD);
        Check.due("no set", x.apart(0, 0, 0), BAD);
        Check.due("64", x.apart(0, 65, 0), BAD);
        Check.due("no person", x.apart(6, 63, 0), BAD);
        Check.due("-1", x.apart(-1, 63, 0), BAD);
        for (int n = 3; n <= 9; n++) {
            x.deed(0, 2);
        }
        Check.due("of 9", x.apart(0, 1, 0), 0);
        x.deed(0, 2);
        Check.due("of 10", x.apart(0, 1, 0), FULL);
        Check.due("of 10", x.apart(0, 25, 1), FULL);
        Check.due("bad ahead of full", x.apart(0, 1, 2), BAD);
        Check.due("bad ahead of full", x.apart(0, 2, 0), BAD);
    }

    private static void apartOfKinds() {
        DeedNames x = Check.laid("n2,0,0,0;n0,0011,0,0;n1,00,0,0;n3,1,0,0;");
        Check.due("doubled", x.apart(0, 3, 0), 1);
        Check.due("doubled", x.apart(0, 3, 1), 4);
        Check.due("shamed: what comes is not said", x.apart(2, 6, 0), NONE);
        Check.due("drummed", x.apart(3, 8, 0), 0);
        Check.due("drummed", x.apart(3, 8, 1), 4);
        DeedNames y = Check.laid("n2,0,0,0;n0,01012,0,0;");
        Check.due("doubled, another one than 1", y.apart(0, 3, 0), 0);
        Check.due("doubled, another one than 1", y.apart(0, 3, 1), 4);
        DeedNames z = Check.laid("n0,0,0,0;n0,00,0,0;n0,01,0,0;n0,02,0,0;n0,03,0,0;n0,04,0,0;n0,05,0,0;");
        Check.due("each of the six is taken", z.apart(0, 127, 0), NONE);
        Check.due("each of the six is taken", z.apart(0, 127, 1), NONE);
        Check.due("all but the last are taken", z.apart(0, 63, 0), 5);
        Check.due("all but the last are taken", z.apart(0, 63, 1), 12);
    }
}
