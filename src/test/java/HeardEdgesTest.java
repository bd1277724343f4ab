/** The edges of what was half heard, sentence by sentence of the document: promises 17 to 20. */
public final class HeardEdgesTest {
    private static final int BAD = Check.BAD, FULL = Check.FULL, NONE = Check.NONE;

    public static void main(String[] args) {
        syllablesHeard();
        twelveAtMost();
        forget();
        partsOfOdds();
        asManyAreSaid();
        weightOfSyllables();
        weightOfRanks();
        lowestTerms();
        greatestOdds();
        noWeight();
        meant();
        meantNone();
        Check.end();
    }

    private static DeedNames hearing(String text, String heard) {
        DeedNames x = Check.laid(text);
        for (int k = 0; k < heard.length(); k++) {
            Check.due("hear", x.hear(heard.charAt(k) - '0'), k + 1);
        }
        return x;
    }

    private static void oddsDue(DeedNames x, int i, long above, long below) {
        Check.due("odds of " + i + ", above", x.odds(i, 0), above);
        Check.due("odds of " + i + ", below", x.odds(i, 1), below);
    }

    // ---- promise 17

    private static void syllablesHeard() {
        Check.about("HEARD (0 to 5, 9): how many. BAD");
        for (int s = -300; s <= 300; s++) {
            boolean told = s >= 0 && s <= 5 || s == 9;
            DeedNames x = new DeedNames();
            Check.due("hear " + s, x.hear(s), told ? 1 : BAD);
            Check.due("HEARD", x.count(1), told ? 1 : 0);
        }
        int[] far = {Integer.MIN_VALUE, Integer.MIN_VALUE + 1, Integer.MAX_VALUE, 65536, 65545, 1 << 30};
        for (int s : far) {
            Check.due("hear " + s, new DeedNames().hear(s), BAD);
        }
    }

    private static void twelveAtMost() {
        Check.about("HEARD are SYLLABLES (12 at most)");
        DeedNames x = hearing("n2,012345,0,0;n2,012344,0,0;m0;", "012345012345");
        int[] any = {0, 1, 2, 3, 4, 5, 9};
        for (int s : any) {
            Check.due("hear the thirteenth, " + s, x.hear(s), FULL);
        }
        int[] bad = {-1, 6, 7, 8, 10};
        for (int s : bad) {
            Check.due("bad ahead of full, " + s, x.hear(s), BAD);
        }
        Check.about("FULL: nothing changes then");
        Check.due("HEARD", x.count(1), 12);
        oddsDue(x, 0, 1, 1);
        oddsDue(x, 1, 0, 1);
        Check.due("meant", x.meant(), 0);
    }

    // ---- promise 18

    private static void forget() {
        Check.about("Nothing HEARD: how many were");
        for (int many = 0; many <= 12; many++) {
            DeedNames x = hearing("n0,0,0,0;", "0".repeat(many));
            Check.due("forget", x.forget(), many);
            Check.due("HEARD", x.count(1), 0);
            Check.due("forget again", x.forget(), 0);
            Check.due("nobody is meant", x.meant(), NONE);
            Check.due("hear anew", x.hear(0), 1);
            Check.due("somebody is meant", x.meant(), 0);
        }
    }

    // ---- promise 19

    private static void partsOfOdds() {
        Check.about("above (part = 0), below (1). BAD");
        Check.onlyTold("odds", 0, 1, part -> hearing("n0,0,0,0;", "0").odds(0, part));
        Check.onlyTold("odds of no weight, bad ahead of none", 0, 1, part -> hearing("n0,0,0,0;", "").odds(0, part));
        Check.onlyTold("odds of nobody, bad ahead of none", 0, 1, i -> hearing("n0,0,0,0;n0,0,0,0;", "").odds(i, 0));
    }

    private static void asManyAreSaid() {
        Check.about("A PERSON may be meant, if as many are SAID of it");
        for (int kind = 0; kind < 4; kind++) {
            for (int size = 1; size <= 10; size++) {
                DeedNames x = Check.laid("n" + kind + ",0,0,0;");
                for (int k = 1; k < size; k++) {
                    x.deed(0, 0);
                }
                int many = x.person(0, 4);
                Check.due("nothing HEARD", x.meant(), NONE);
                for (int heard = 1; heard <= 12; heard++) {
                    x.hear(9);
                    Check.due(heard + " HEARD, " + many + " SAID", x.meant(), heard == many ? 0 : NONE);
                    oddsDue(x, 0, heard == many ? 1 : NONE, heard == many ? 1 : NONE);
                }
            }
        }
    }

    private static void weightOfSyllables() {
        Check.about("(10 less M), if it is as HEARD, of M, if it is another one");
        // who is as HEARD weighs 10 less M, the other M
        int[][] due = {{0, 1, 1, 0, 1}, {1, 9, 10, 1, 10}, {5, 1, 2, 1, 2}, {9, 1, 10, 9, 10}};
        for (int[] row : due) {
            DeedNames x = hearing("n0,3,0,0;n0,4,0,0;m" + row[0] + ";", "3");
            oddsDue(x, 0, row[1], row[2]);
            oddsDue(x, 1, row[3], row[4]);
        }
        Check.about("of 10, if it was not heard");
        for (int m = 0; m <= 9; m++) {
            // 10 and 10 at the first place, 10 less M and M at the second, and the third one of three SYLLABLES
            DeedNames x = hearing("n0,30,0,0;n0,41,0,0;n0,300,0,0;m" + m + ";", "90");
            int common = m % 5 == 0 ? 5 : m % 2 == 0 ? 2 : 1;
            common = m == 0 ? 10 : common;
            oddsDue(x, 0, (10 - m) / common, 10 / common);
            oddsDue(x, 1, m / common, 10 / common);
            oddsDue(x, 2, 0, 1);
        }
        // 9 HEARD is 10 for whoever, not M: with M of 0 both weigh
        DeedNames x = hearing("n0,3,0,0;n0,4,0,0;m0;", "9");
        oddsDue(x, 0, 1, 2);
        oddsDue(x, 1, 1, 2);
        Check.about("the product over SYLLABLES");
        // 7 7 3, 7 3 7, 3 3 3: 147, 147 and 27 of 321
        DeedNames y = hearing("n0,012,0,0;n0,021,0,0;n0,120,0,0;m3;", "011");
        oddsDue(y, 0, 49, 107);
        oddsDue(y, 1, 49, 107);
        oddsDue(y, 2, 9, 107);
    }

    private static void weightOfRanks() {
        Check.about("and of (RANK and 1)");
        DeedNames x = hearing("n0,0,0,0;n0,0,0,9;n0,0,0,4;", "0");
        oddsDue(x, 0, 1, 16);
        oddsDue(x, 1, 5, 8);
        oddsDue(x, 2, 5, 16);
        Check.due("meant", x.meant(), 1);
        DeedNames y = hearing("n0,0,0,0;n0,0,0,0;", "9");
        oddsDue(y, 1, 1, 2);
    }

    private static void lowestTerms() {
        Check.about("its weight by that of all together, in lowest terms");
        oddsDue(hearing("n0,0,0,9;", "0"), 0, 1, 1);
        DeedNames x = hearing("n0,00,0,0;n0,01,0,0;n0,11,0,0;n0,000,0,0;m2;", "00");
        // 64, 16, 4: 84
        oddsDue(x, 0, 16, 21);
        oddsDue(x, 1, 4, 21);
        oddsDue(x, 2, 1, 21);
        Check.about("Odds: no weight of its own, but others have some");
        oddsDue(x, 3, 0, 1);
        DeedNames y = hearing("n0,0,0,0;n0,1,0,9;m0;", "0");
        oddsDue(y, 1, 0, 1);
        oddsDue(y, 0, 1, 1);
    }

    private static void greatestOdds() {
        Check.about("Odds of the most that can be HEARD");
        long nines = 282429536481L;
        DeedNames x = hearing("n2,000000,0,0;n2,111111,0,0;m1;", "000000000000");
        oddsDue(x, 0, nines, nines + 1);
        oddsDue(x, 1, 1, nines + 1);
        DeedNames y = hearing("n2,000000,0,0;n2,111111,0,0;m9;", "000000000000");
        oddsDue(y, 0, 1, nines + 1);
        oddsDue(y, 1, nines, nines + 1);
        Check.due("meant", y.meant(), 1);
        DeedNames z = hearing("n2,000000,0,9;".repeat(7) + "n3,000000,0,8;", "999999999999");
        oddsDue(z, 0, 10, 79);
        oddsDue(z, 7, 9, 79);
        Check.due("meant", z.meant(), 0);
        DeedNames w = hearing("n2,000000,0,9;".repeat(7) + "n2,111111,0,0;m1;", "000000000000");
        // 70 times 9 to the 12th, and 1
        oddsDue(w, 7, 1, 70 * nines + 1);
        oddsDue(w, 6, 10 * nines, 70 * nines + 1);
    }

    private static void noWeight() {
        Check.about("Odds: none (no weight)");
        oddsDue(hearing("n0,0,0,9;", ""), 0, NONE, NONE);
        oddsDue(hearing("n0,0,0,9;", "00"), 0, NONE, NONE);
        oddsDue(hearing("n0,00,0,9;", "0"), 0, NONE, NONE);
        oddsDue(hearing("n0,0,0,9;n0,1,0,0;m0;", "2"), 0, NONE, NONE);
        oddsDue(hearing("n0,0,0,9;n0,1,0,0;m0;", "2"), 1, NONE, NONE);
        oddsDue(hearing("n2,000000,0,9;", "99999999999"), 0, NONE, NONE);
        oddsDue(hearing("n2,000000,0,9;", "999999999999"), 0, 1, 1);
        DeedNames x = hearing("n2,000000,0,9;", "999999999999");
        x.deed(0, 0);
        oddsDue(x, 0, NONE, NONE);
    }

    // ---- promise 20

    private static void meant() {
        Check.about("MEANT: who has the greatest weight, the lowest");
        Check.due("alike", hearing("n0,0,0,0;".repeat(8), "0").meant(), 0);
        Check.due("by RANK, the last one", hearing("n0,0,0,0;".repeat(7) + "n0,0,0,1;", "0").meant(), 7);
        Check.due("the first two are too short", hearing("n0,0,0,9;n0,1,0,9;n0,01,0,0;n0,01,0,0;", "01").meant(), 2);
        // 9 and 1 times 9: alike; 1 times 10 is more
        Check.due("as much by RANK", hearing("n0,0,0,0;n0,1,0,8;", "0").meant(), 0);
        Check.due("as much by RANK, told first", hearing("n0,1,0,8;n0,0,0,0;", "0").meant(), 0);
        Check.due("more by RANK", hearing("n0,0,0,0;n0,1,0,9;", "0").meant(), 1);
        Check.due("the least weight there is", hearing("n0,00,0,0;", "11").meant(), 0);
    }

    private static void meantNone() {
        Check.about("MEANT: none");
        Check.due("nothing HEARD", hearing("n0,0,0,9;", "").meant(), NONE);
        Check.due("too many HEARD", hearing("n0,0,0,9;", "00").meant(), NONE);
        Check.due("too few HEARD", hearing("n0,00,0,9;", "0").meant(), NONE);
        Check.due("no weight by M of 0", hearing("n0,0,0,9;m0;", "1").meant(), NONE);
        Check.due("weight by M of 1", hearing("n0,0,0,9;m1;", "1").meant(), 0);
    }
}
