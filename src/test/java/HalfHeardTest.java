/** Promises 17 to 20: what was half heard, odds and who is meant. */
public final class HalfHeardTest {
    private static final int BAD = Check.BAD, FULL = Check.FULL, NONE = Check.NONE;

    public static void main(String[] args) {
        hear();
        forget();
        odds();
        oddsWithoutMishearing();
        oddsOfLongNames();
        meant();
        Check.end();
    }

    private static void hearAll(DeedNames x, String heard) {
        x.forget();
        for (int k = 0; k < heard.length(); k++) {
            Check.due("hear of " + heard, x.hear(heard.charAt(k) - '0'), k + 1);
        }
    }

    private static void oddsDue(DeedNames x, int i, long above, long below) {
        Check.due("odds of " + i + ", above", x.odds(i, 0), above);
        Check.due("odds of " + i + ", below", x.odds(i, 1), below);
    }

    private static void hear() {
        DeedNames x = new DeedNames();
        int[] bad = {-1, 6, 7, 8, 10, Integer.MIN_VALUE, Integer.MAX_VALUE};
        for (int s : bad) {
            Check.due("hear " + s, x.hear(s), BAD);
        }
        Check.due("nothing heard", x.count(1), 0);
        hearAll(x, "012345901234");
        Check.due("the thirteenth", x.hear(0), FULL);
        Check.due("the thirteenth, not heard", x.hear(9), FULL);
        Check.due("bad ahead of full", x.hear(6), BAD);
        Check.due("twelve", x.count(1), 12);
    }

    private static void forget() {
        DeedNames x = new DeedNames();
        Check.due("nothing", x.forget(), 0);
        hearAll(x, "019");
        Check.due("three", x.forget(), 3);
        Check.due("nothing", x.forget(), 0);
        Check.due("nothing", x.count(1), 0);
        Check.due("anew", x.hear(1), 1);
    }

    private static void odds() {
        DeedNames x = Check.laid("n0,01,0,0;n0,02,0,1;n0,012,0,9;n1,013,0,4;n2,0,0,9;m3;");
        Check.due("nothing heard", x.odds(0, 0), NONE);
        Check.due("nothing heard", x.odds(0, 1), NONE);
        hearAll(x, "01");
        // 7*7*1, 7*3*2, -, 7*7*5, 7*3*10: 49, 42, 0, 245, 210
        oddsDue(x, 0, 7, 78);
        oddsDue(x, 1, 1, 13);
        oddsDue(x, 2, 0, 1);
        oddsDue(x, 3, 35, 78);
        oddsDue(x, 4, 5, 13);
        hearAll(x, "09");
        oddsDue(x, 0, 1, 18);
        oddsDue(x, 1, 1, 9);
        hearAll(x, "0");
        oddsDue(x, 0, NONE, NONE);
        hearAll(x, "999");
        oddsDue(x, 2, 1, 1);
        oddsDue(x, 0, 0, 1);
        Check.due("part 2", x.odds(0, 2), BAD);
        Check.due("part -1", x.odds(0, -1), BAD);
        Check.due("no person", x.odds(5, 0), BAD);
        Check.due("-1", x.odds(-1, 0), BAD);
        x.forget();
        Check.due("bad ahead of none", x.odds(5, 0), BAD);
        Check.due("bad ahead of none", x.odds(0, 2), BAD);
    }

    private static void oddsWithoutMishearing() {
        DeedNames x = Check.laid("n0,01,0,0;n0,02,0,1;m0;");
        hearAll(x, "01");
        oddsDue(x, 0, 1, 1);
        oddsDue(x, 1, 0, 1);
        Check.due("meant", x.meant(), 0);
        hearAll(x, "05");
        oddsDue(x, 0, NONE, NONE);
        Check.due("no weight, nobody meant", x.meant(), NONE);
        hearAll(x, "99");
        oddsDue(x, 0, 1, 3);
        oddsDue(x, 1, 2, 3);
        Check.due("meant", x.meant(), 1);
    }

    private static void oddsOfLongNames() {
        DeedNames x = Check.laid("n2,012345,0,9;n3,012340,0,8;n2,012345,0,9;m1;");
        hearAll(x, "012345012345");
        // 9 to the 12th times 10; 9 to the 10th times 9
        oddsDue(x, 0, 90, 181);
        oddsDue(x, 1, 1, 181);
        hearAll(x, "999999999999");
        oddsDue(x, 0, 10, 29);
        oddsDue(x, 1, 9, 29);
        Check.due("meant", x.meant(), 0);
    }

    private static void meant() {
        DeedNames x = Check.laid("n0,01,0,0;n0,02,0,1;n0,012,0,9;n1,023,0,1;n0,5,0,0;m4;");
        Check.due("nothing heard", x.meant(), NONE);
        hearAll(x, "01");
        // 36, 48, -, 48
        Check.due("rank outweighs, the lowest", x.meant(), 1);
        hearAll(x, "012");
        Check.due("one of three", x.meant(), 2);
        hearAll(x, "0120");
        Check.due("none of four", x.meant(), NONE);
        hearAll(x, "4");
        Check.due("misheard, but alone", x.meant(), 4);
        oddsDue(x, 4, 1, 1);
        x.kind(4, 2);
        Check.due("none of one", x.meant(), NONE);
        hearAll(x, "55");
        Check.due("doubled", x.meant(), 4);
        DeedNames y = Check.laid("n0,0,0,0;n0,01,0,0;m1;");
        hearAll(y, "1");
        Check.due("the least weight", y.meant(), 0);
        oddsDue(y, 0, 1, 1);
        oddsDue(y, 1, 0, 1);
    }
}
