/** The edges of cries, warnings and councils, sentence by sentence of the document: promises 10 to 13. */
public final class HeraldEdgesTest {
    private static final int BAD = Check.BAD, NONE = Check.NONE;

    public static void main(String[] args) {
        setsOfPersons();
        breathsOfACry();
        breathsAcrossNames();
        longestCry();
        warningsThatAreTold();
        savedByLastBeat();
        savedByLongestTime();
        breathsOfAWarning();
        nobodySaved();
        mostSaved();
        lowestSet();
        firstOrderOfAWarning();
        calledPlaces();
        greetedPlaces();
        breathsOfOneName();
        breathsOfTwoNames();
        longNameParts();
        ranks();
        fewest();
        firstOrderOfACouncil();
        longestCouncil();
        Check.end();
    }

    /** So many PERSONS of one SYLLABLE, all alike. */
    private static DeedNames ofPersons(int n) {
        return Check.laid("n0,0,0,0;".repeat(n));
    }

    /** A PLAIN or DOUBLE one of 1 to 10 SYLLABLES, that is SAID by so many. */
    private static DeedNames ofSaid(int many, String more) {
        boolean twice = many > 10;
        DeedNames x = Check.laid("n" + (twice ? 2 : 0) + ",0,0,0;" + more);
        for (int size = 2; size <= (twice ? many / 2 : many); size++) {
            x.deed(0, 1);
        }
        Check.due("LONG", x.person(0, 4), many);
        return x;
    }

    private static void setsOfPersons() {
        int[] numbers = {1, 2, 7, 8};
        for (int n : numbers) {
            Check.about("BAD: sets of these, not empty (" + n + " PERSONS)");
            int all = (1 << n) - 1;
            Check.onlyTold("cry", 1, all, set -> ofPersons(n).cry(set));
            Check.onlyTold("greet", 1, all, set -> ofPersons(n).greet(set, -1));
            Check.onlyTold("greet", 1, all, set -> ofPersons(n).greet(set, 0));
            Check.onlyTold("allShort", 1, all, set -> ofPersons(n).allShort(set));
            int[] beyond = {0, all + 1, all + 2, -1, -2, Integer.MIN_VALUE, Integer.MIN_VALUE + 1, Integer.MAX_VALUE, 1 << 30 | 1};
            for (int set : beyond) {
                Check.due("shortCall among " + set, ofPersons(n).shortCall(0, set), BAD);
                Check.due("apart among " + set, ofPersons(n).apart(0, set, 0), BAD);
            }
        }
    }

    // ---- promise 10

    private static void breathsOfACry() {
        Check.about("V for each breath but the first one: behind each B SYLLABLES, if more are to come");
        int[] saids = {1, 2, 3, 4, 5, 6, 7, 8, 9, 10, 12, 14, 16, 18, 20};
        for (int b = 1; b <= 12; b++) {
            for (int many : saids) {
                int beats = 0;
                for (int k = 0; k < many; k++) {
                    beats += k > 0 && k % b == 0 ? 21 : 1;
                }
                Check.due("cry of " + many + ", B " + b, ofSaid(many, "b" + b + ",20;").cry(1), beats);
            }
        }
        Check.due("exactly a breath", ofSaid(4, "b4,20;").cry(1), 4);
        Check.due("and one", ofSaid(5, "b4,20;").cry(1), 25);
        Check.due("exactly two", ofSaid(8, "b4,20;").cry(1), 28);
        Check.due("and one", ofSaid(9, "b4,20;").cry(1), 49);
        Check.due("breaths for nothing", ofSaid(9, "b4,0;").cry(1), 9);
        Check.due("a breath for each", ofSaid(9, "b1,1;").cry(1), 17);
    }

    private static void breathsAcrossNames() {
        Check.about("CALLED one behind the other: behind each B SYLLABLES (also within a name)");
        DeedNames x = Check.laid("n0,012,0,0;n0,01,0,0;n0,0123,0,0;n1,0,0,0;b4,7;");
        Check.due("three and two: within the second", x.cry(3), 5 + 7);
        Check.due("three and one: just a breath", x.cry(9), 4);
        Check.due("three and four", x.cry(5), 7 + 7);
        Check.due("four and one", x.cry(12), 5 + 7);
        Check.due("two and four", x.cry(6), 6 + 7);
        Check.due("three, two and four: nine", x.cry(7), 9 + 14);
        Check.due("all: ten", x.cry(15), 10 + 14);
        x.deed(3, 1);
        x.deed(3, 1);
        x.kind(3, 0);
        Check.due("all: twelve, three breaths that are full", x.cry(15), 12 + 14);
        Check.about("CRY for a set (bits)");
        DeedNames y = Check.laid("n0,0,0,0;n0,1,0,0;n0,2,0,0;n0,3,0,0;s0,1;s1,2;s2,4;s3,8;b12,0;");
        for (int set = 1; set < 16; set++) {
            Check.due("cry " + set, y.cry(set), set);
        }
    }

    private static void longestCry() {
        Check.about("CRY for all that can be told");
        DeedNames x = Check.laid("n3,000000,99,9;".repeat(8) + "s0,9;b1,20;");
        for (int i = 0; i < 8; i++) {
            for (int k = 0; k < 4; k++) {
                x.deed(i, 0);
            }
        }
        Check.due("cry", x.cry(255), 8 * 360 + 159 * 20);
        Check.due("years", x.years(0, 0, 0), 8 * 360 + 159 * 20);
        Check.due("the shortest cry", ofPersons(1).cry(1), 1);
    }

    // ---- promises 11 and 12

    private static void warningsThatAreTold() {
        Check.about("L beats (0 to 999); BAD");
        Check.onlyTold("warn", 0, 999, l -> ofPersons(3).warn(l, 0));
        Check.onlyTold("warn", 0, 999, l -> ofPersons(3).warn(l, 1));
        Check.onlyTold("called", 0, 999, l -> ofPersons(3).called(l, 0));
        Check.about("how many (what = 0), the set (1). BAD");
        Check.onlyTold("warn", 0, 1, what -> ofPersons(3).warn(5, what));
        Check.about("the i-th that is CALLED (i 0 to 7). BAD");
        Check.onlyTold("called", 0, 7, i -> ofPersons(3).called(5, i));
        Check.onlyTold("called by nobody's time", 0, 7, i -> ofPersons(3).called(0, i));
        Check.onlyTold("called of eight", 0, 7, i -> ofPersons(8).called(999, i));
    }

    private static void savedByLastBeat() {
        Check.about("saved, if beats up to the end of its name and X are L or less together");
        for (int x = 0; x <= 99; x += 11) {
            for (int size = 1; size <= 4; size++) {
                DeedNames one = Check.laid("n0," + "0".repeat(size) + "," + x + ",0;s0,3;");
                int last = 3 * size + x;
                Check.due("warn by " + last, one.warn(last, 0), 1);
                Check.due("set", one.warn(last, 1), 1);
                Check.due("called", one.called(last, 0), 0);
                Check.due("a beat less", one.warn(last - 1, 0), 0);
                Check.due("set", one.warn(last - 1, 1), 0);
                Check.due("called", one.called(last - 1, 0), NONE);
            }
        }
        Check.about("beats up to the end of its name (with all CALLED ahead of it)");
        DeedNames two = Check.laid("n0,01,0,0;n0,012,1,0;");
        // a breath behind the fourth: 2 and 5 + 3 + 1, or 3 + 1 and 5 + 3
        Check.due("both by 8", two.warn(8, 0), 2);
        Check.due("the far one first", two.called(8, 0), 1);
        Check.due("not both by 7", two.warn(7, 0), 1);
        Check.due("any order by 9", two.called(9, 0), 0);
    }

    private static void savedByLongestTime() {
        Check.about("WARNING with L beats (0 to 999): the last one");
        // the first one takes 360 beats and 19 breaths of 20: 740; the second ends 6 times 29 behind that: 914
        String first = "n3,000000,99,0;s0,9;b1,20;";
        int[] paces = {84, 85, 86};
        int[] saved = {2, 2, 1};
        for (int k = 0; k < 3; k++) {
            DeedNames x = Check.laid(first + "n0,000000," + paces[k] + ",0;");
            for (int d = 0; d < 4; d++) {
                x.deed(0, 0);
            }
            Check.due("warn by 999, X " + paces[k], x.warn(999, 0), saved[k]);
            Check.due("set by 999, X " + paces[k], x.warn(999, 1), saved[k] == 2 ? 3 : 1);
            Check.due("warn by 998, X " + paces[k], x.warn(998, 0), k == 0 ? 2 : 1);
            Check.due("set by 838", x.warn(838, 1), 2);
            Check.due("set by 839", x.warn(839, 1), 1);
        }
    }

    private static void breathsOfAWarning() {
        Check.about("V for each breath but the first one, if more are to come: ahead of a name, not behind it");
        DeedNames x = Check.laid("n0,0123,0,0;n0,4,0,0;b4,20;");
        Check.due("the first alone by 4", x.warn(4, 1), 1);
        Check.due("the second ends at 25", x.warn(24, 0), 1);
        Check.due("the second ends at 25", x.warn(25, 0), 2);
        Check.due("in the first order", x.called(25, 0), 0);
        DeedNames y = Check.laid("n0,0123,0,0;n0,4,0,0;b5,20;");
        Check.due("in one breath", y.warn(5, 0), 2);
        Check.due("in one breath", y.warn(4, 0), 1);
        DeedNames z = Check.laid("n0,01234,0,0;b4,20;");
        Check.due("within a name", z.warn(24, 0), 0);
        Check.due("within a name", z.warn(25, 0), 1);
    }

    private static void nobodySaved() {
        Check.about("WARNING: nobody can be saved; NONE");
        int[] numbers = {1, 8};
        for (int n : numbers) {
            DeedNames x = ofPersons(n);
            Check.due("how many by 0", x.warn(0, 0), 0);
            Check.due("the set by 0", x.warn(0, 1), 0);
            for (int i = 0; i < 8; i++) {
                Check.due("called by 0", x.called(0, i), NONE);
            }
            Check.due("how many by 1", x.warn(1, 0), 1);
            Check.due("the set by 1", x.warn(1, 1), 1);
        }
    }

    private static void mostSaved() {
        Check.about("the most that can be");
        DeedNames x = Check.laid("n0,0,0,0;n0,11,0,0;n0,22,0,0;s0,5;b12,0;");
        Check.due("two near ones of 2 beats, not the first one of 5", x.warn(5, 0), 2);
        Check.due("set", x.warn(5, 1), 6);
        Check.due("set by 7: again two, with the first", x.warn(7, 1), 3);
        Check.due("all by 9", x.warn(9, 1), 7);
        Check.due("not all by 8", x.warn(8, 0), 2);
        DeedNames eight = ofPersons(8);
        Check.due("all eight by 8 and a breath", eight.warn(11, 0), 8);
        Check.due("set", eight.warn(11, 1), 255);
        Check.due("not all by one less", eight.warn(10, 0), 7);
        Check.due("set", eight.warn(10, 1), 127);
        Check.due("four ahead of the breath", eight.warn(7, 0), 4);
        Check.about("Only who is saved is CALLED");
        DeedNames far = Check.laid("n0,0,99,0;n0,1,0,0;");
        Check.due("the far one is not CALLED", far.warn(99, 1), 2);
        Check.due("but it is by 100", far.warn(100, 1), 3);
    }

    private static void lowestSet() {
        Check.about("of such sets the one of the lowest number (bits)");
        // by 5: 0 and 1, 0 and 2 take 6; 1 and 2 (6 as bits) and 0 and 3 (9) can be saved
        DeedNames x = Check.laid("n0,0000,0,0;n0,11,1,0;n0,22,1,0;n0,3,1,0;b12,0;");
        Check.due("how many", x.warn(5, 0), 2);
        Check.due("the set", x.warn(5, 1), 6);
        Check.due("called first", x.called(5, 0), 1);
        Check.due("called second", x.called(5, 1), 2);
        Check.due("no third", x.called(5, 2), NONE);
        DeedNames y = Check.laid("n0,0,50,0;n0,1,7,0;n0,2,7,0;n0,3,7,0;");
        Check.due("one of three alike", y.warn(8, 1), 2);
        Check.due("two of three alike", y.warn(9, 1), 6);
        Check.due("three alike", y.warn(10, 1), 14);
    }

    private static void firstOrderOfAWarning() {
        Check.about("the first order of it by which all of it are saved");
        // each takes a beat: who is i-th has i + 1 and X
        DeedNames x = Check.laid("n0,0,3,0;n0,1,2,0;n0,2,1,0;n0,3,0,0;b12,0;");
        int[][] due = {{4, 0, 1, 2, 3}, {5, 0, 1, 2, 3}, {6, 0, 1, 2, 3}, {7, 0, 1, 2, 3}};
        for (int[] row : due) {
            for (int i = 0; i < 4; i++) {
                Check.due("called by " + row[0] + ", " + i, x.called(row[0], i), row[i + 1]);
            }
        }
        DeedNames y = Check.laid("n0,0,0,0;n0,1,1,0;n0,2,2,0;n0,3,3,0;b12,0;");
        int[][] turned = {{4, 3, 2, 1, 0}, {5, 0, 3, 2, 1}, {6, 0, 1, 3, 2}, {7, 0, 1, 2, 3}};
        for (int[] row : turned) {
            Check.due("all by " + row[0], y.warn(row[0], 0), 4);
            for (int i = 0; i < 4; i++) {
                Check.due("called by " + row[0] + ", " + i, y.called(row[0], i), row[i + 1]);
            }
        }
    }

    private static void calledPlaces() {
        Check.about("the i-th that is CALLED. NONE");
        for (int n = 1; n <= 8; n++) {
            DeedNames x = ofPersons(n);
            for (int i = 0; i < 8; i++) {
                Check.due("called by 999", x.called(999, i), i < n ? i : NONE);
            }
        }
        DeedNames x = ofPersons(8);
        for (int i = 0; i < 8; i++) {
            Check.due("two by 2", x.called(2, i), i < 2 ? i : NONE);
        }
    }

    // ---- promise 13

    private static void greetedPlaces() {
        Check.about("FEWEST (i = -1), the i-th that is greeted (i 0 to 7). BAD");
        Check.onlyTold("greet", -1, 7, i -> ofPersons(1).greet(1, i));
        Check.onlyTold("greet", -1, 7, i -> ofPersons(8).greet(255, i));
        Check.about("the i-th that is greeted. NONE");
        for (int n = 1; n <= 8; n++) {
            DeedNames x = ofPersons(8);
            int low = (1 << n) - 1;
            int high = low << 8 - n;
            for (int i = 0; i < 8; i++) {
                Check.due("greet the lowest " + n, x.greet(low, i), i < n ? i : NONE);
                Check.due("greet the highest " + n, x.greet(high, i), i < n ? 8 - n + i : NONE);
            }
            Check.due("FEWEST", x.greet(low, -1), n <= 4 ? 1 : 2);
        }
    }

    private static int breaths(int many, int b) {
        int breaths = 0;
        for (int left = many; left > 0; left -= b) {
            breaths++;
        }
        return breaths;
    }

    private static void breathsOfOneName() {
        Check.about("B SYLLABLES at most; a name of more than B goes on through as many as it needs");
        int[] saids = {1, 2, 3, 4, 5, 6, 7, 8, 9, 10, 12, 14, 16, 18, 20};
        for (int b = 1; b <= 12; b++) {
            for (int many : saids) {
                DeedNames x = ofSaid(many, "b" + b + ",0;");
                Check.due("greet one of " + many + ", B " + b, x.greet(1, -1), breaths(many, b));
                Check.due("it is greeted", x.greet(1, 0), 0);
                Check.due("once", x.greet(1, 1), NONE);
            }
        }
    }

    private static void breathsOfTwoNames() {
        Check.about("In a breath there are whole names, B SYLLABLES at most; the next name begins a new one");
        for (int b = 1; b <= 12; b++) {
            for (int first = 1; first <= 6; first++) {
                for (int second = 1; second <= 6; second++) {
                    String text = "n0," + "0".repeat(first) + ",0,0;n0," + "1".repeat(second) + ",0,0;b" + b + ",20;";
                    int due = first + second <= b ? 1 : breaths(first, b) + breaths(second, b);
                    Check.due("greet both of " + text, Check.laid(text).greet(3, -1), due);
                }
            }
        }
    }

    private static void longNameParts() {
        Check.about("a name of more than B begins a breath .. and the next name begins a new one");
        // ranks make the order: 1, then 5 of B 4, then 1: no breath is shared with the long name
        DeedNames x = Check.laid("n0,0,0,9;n0,12345,0,8;n0,1,0,7;n0,2,0,7;b4,3;");
        Check.due("behind one", x.greet(3, -1), 1 + 2);
        Check.due("ahead of one", x.greet(6, -1), 2 + 1);
        Check.due("between", x.greet(7, -1), 1 + 2 + 1);
        Check.due("two share a breath behind it", x.greet(15, -1), 1 + 2 + 1);
        DeedNames y = Check.laid("n0,0,0,9;n0,1234,0,8;n0,1,0,7;b4,3;");
        Check.due("a name of just B fills a breath", y.greet(7, -1), 3);
        DeedNames z = Check.laid("n0,0,0,9;n0,123,0,8;n0,1,0,7;n0,2,0,6;b4,3;");
        Check.due("one and three fill a breath", z.greet(3, -1), 1);
        Check.due("the next two begin a new one", z.greet(15, -1), 2);
        DeedNames w = Check.laid("n2,12345,0,9;n0,1,0,8;b10,3;");
        Check.due("twice five fill a breath of ten", w.greet(3, -1), 2);
        w.deed(0, 0);
        Check.due("twice six go on into the second", w.greet(3, -1), 3);
    }

    private static void ranks() {
        Check.about("who is of higher RANK ahead of who is of a lower one");
        DeedNames x = Check.laid("n0,0,0,0;n0,0,0,1;n0,0,0,9;n0,0,0,8;n0,0,0,0;n0,0,0,9;n0,0,0,5;n0,0,0,1;");
        int[] due = {2, 5, 3, 6, 1, 7, 0, 4};
        for (int i = 0; i < 8; i++) {
            Check.due("greet all, " + i, x.greet(255, i), due[i]);
        }
        int[] some = {6, 1, 0, 4, NONE};
        for (int i = 0; i < some.length; i++) {
            Check.due("greet some, " + i, x.greet(1 | 2 | 16 | 64, i), some[i]);
        }
        Check.about("who is of higher RANK ahead: as it is LAID now");
        x.wipe();
        Check.write(x, "n0,0,0,9;n0,0,0,8;n0,0,0,7;");
        x.lay();
        for (int i = 0; i < 4; i++) {
            Check.due("greet " + i, x.greet(7, i), i < 3 ? i : NONE);
        }
        Check.about("who is of higher RANK ahead: also if more breaths are needed by that");
        DeedNames y = Check.laid("n0,012,0,2;n0,01,0,1;n0,3,0,0;n0,45,0,0;b4,3;");
        // 3, 2 1, 2: 3 breaths; by free order 3 1, 2 2 would be two
        Check.due("FEWEST", y.greet(15, -1), 3);
        for (int i = 0; i < 4; i++) {
            Check.due("greet " + i, y.greet(15, i), i);
        }
    }

    private static void fewest() {
        Check.about("FEWEST breaths");
        DeedNames x = Check.laid("n0,012,0,0;n0,345,0,0;n0,1,0,0;n0,2,0,0;b4,3;");
        Check.due("3 1, 3 1", x.greet(15, -1), 2);
        int[] due = {0, 2, 1, 3};
        for (int i = 0; i < 4; i++) {
            Check.due("greet " + i, x.greet(15, i), due[i]);
        }
        DeedNames y = Check.laid("n0,01,0,0;n0,012,0,0;n0,01,0,0;n0,0,0,0;b4,3;");
        Check.due("2 2, 3 1", y.greet(15, -1), 2);
        int[] others = {0, 2, 1, 3};
        for (int i = 0; i < 4; i++) {
            Check.due("greet " + i, y.greet(15, i), others[i]);
        }
        Check.due("2 and 3 do not share a breath", y.greet(3, -1), 2);
        Check.due("3 and 1 do", y.greet(10, -1), 1);
    }

    private static void firstOrderOfACouncil() {
        Check.about("of orders by which they are, the first (by who is greeted first, then second, ..)");
        DeedNames x = Check.laid("n0,01,0,0;n0,012,0,0;n0,0123,0,0;n0,0,0,0;b5,3;");
        // 2 3, 4 1: no other way to two breaths but in other orders
        int[] due = {0, 1, 2, 3};
        Check.due("FEWEST", x.greet(15, -1), 2);
        for (int i = 0; i < 4; i++) {
            Check.due("greet " + i, x.greet(15, i), due[i]);
        }
        DeedNames y = Check.laid("n0,01,0,0;n0,0123,0,0;n0,012,0,0;n0,0,0,0;b5,3;");
        int[] turned = {0, 2, 1, 3};
        Check.due("FEWEST", y.greet(15, -1), 2);
        for (int i = 0; i < 4; i++) {
            Check.due("greet " + i, y.greet(15, i), turned[i]);
        }
        DeedNames z = Check.laid("n0,0,0,0;n0,01,0,0;n0,01234,0,0;n0,0,0,0;b4,3;");
        int[] middle = {0, 1, 3, 2};
        Check.due("FEWEST", z.greet(15, -1), 3);
        for (int i = 0; i < 4; i++) {
            Check.due("greet " + i, z.greet(15, i), middle[i]);
        }
        DeedNames w = Check.laid("n0,0,0,0;n0,01,0,0;n0,012345,0,0;n0,01,0,0;b4,3;");
        int[] early = {0, 1, 2, 3};
        Check.due("FEWEST", w.greet(15, -1), 4);
        for (int i = 0; i < 4; i++) {
            Check.due("greet " + i, w.greet(15, i), early[i]);
        }
    }

    private static void longestCouncil() {
        Check.about("COUNCIL of all that can be told");
        DeedNames x = Check.laid("n2,000000,0,0;".repeat(8) + "b1,0;");
        for (int i = 0; i < 8; i++) {
            for (int k = 0; k < 4; k++) {
                x.deed(i, 0);
            }
        }
        Check.due("FEWEST", x.greet(255, -1), 160);
        Check.due("the last one", x.greet(255, 7), 7);
    }
}
