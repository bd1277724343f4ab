/** The edges of PERSONS and their NAMES, sentence by sentence of the document: promises 6 to 9. */
public final class NameEdgesTest {
    private static final int BAD = Check.BAD, FULL = Check.FULL, NONE = Check.NONE;

    public static void main(String[] args) {
        personsThereAre();
        person();
        saidOfKinds();
        said();
        deedsThereAre();
        tenAtMost();
        tenAtMostOfKinds();
        shameOfTwoOrMore();
        kind();
        Check.end();
    }

    /** A PERSON of a KIND whose NAME is 0, 1, .. in turn, of 1 to 10 SYLLABLES. */
    private static DeedNames named(int kind, int size) {
        DeedNames x = Check.laid("n" + kind + ",0,5,0;k2;");
        int[] deeds = {0, 1, 3, 4, 5};
        for (int k = 1; k < size; k++) {
            Check.due("deed", x.deed(0, deeds[k % 5]), k + 1);
        }
        return x;
    }

    private static int syllable(int k) {
        int[] syllables = {0, 1, 3, 4, 5};
        return syllables[k % 5];
    }

    private static int saidNumber(int kind, int size) {
        int[] longs = {size, size > 1 ? size - 1 : 1, 2 * size, 2 * size};
        return longs[kind];
    }

    private static DeedNames ofPersons(int n) {
        return Check.laid("n0,01,5,0;".repeat(n));
    }

    private static void personsThereAre() {
        int[] numbers = {1, 2, 7, 8};
        for (int n : numbers) {
            Check.about("BAD: PERSONS: such as there are (" + n + ")");
            Check.onlyTold("person", 0, n - 1, i -> ofPersons(n).person(i, 0));
            Check.onlyTold("said", 0, n - 1, i -> ofPersons(n).said(i, 0));
            Check.onlyTold("deed", 0, n - 1, i -> ofPersons(n).deed(i, 0));
            Check.onlyTold("kind", 0, n - 1, i -> ofPersons(n).kind(i, 0));
            Check.onlyTold("odds", 0, n - 1, i -> ofPersons(n).odds(i, 0));
            Check.onlyTold("then", 0, n - 1, i -> ofPersons(n).then(0, 0, i, 0));
            Check.onlyTold("shortCall", 0, n - 1, i -> ofPersons(n).shortCall(i, (1 << n) - 1));
            Check.onlyTold("apart", 0, n - 1, i -> ofPersons(n).apart(i, (1 << n) - 1, 0));
        }
    }

    private static void personDue(String text, int... due) {
        for (int what = 0; what < due.length; what++) {
            Check.due("person " + what + " of " + text, Check.laid(text).person(0, what), due[what]);
        }
    }

    private static void person() {
        Check.about("Of a PERSON: what 0 to 5. BAD.");
        Check.onlyTold("person", 0, 5, what -> ofPersons(1).person(0, what));
        Check.about("Of a PERSON: its KIND, X, RANK, how many SYLLABLES its NAME has, LONG, beats of it SAID alone");
        personDue("n0,0,0,0;", 0, 0, 0, 1, 1, 1);
        personDue("n1,0,99,9;", 1, 99, 9, 1, 1, 1);
        personDue("n2,0,1,1;", 2, 1, 1, 1, 2, 2);
        personDue("n3,0,98,8;", 3, 98, 8, 1, 2, 4);
        personDue("n0,555555,0,0;s5,9;", 0, 0, 0, 6, 6, 54);
        personDue("n1,55,0,0;s5,9;", 1, 0, 0, 2, 1, 9);
        personDue("n3,555555,0,0;s5,9;", 3, 0, 0, 6, 12, 216);
        Check.about("beats of it SAID alone, without breaths");
        personDue("n0,012345,0,0;b1,20;", 0, 0, 0, 6, 6, 6);
        DeedNames x = Check.laid("n3,000000,0,0;s0,9;b1,20;");
        for (int k = 0; k < 4; k++) {
            x.deed(0, 0);
        }
        Check.due("LONG of the longest", x.person(0, 4), 20);
        Check.due("beats of the longest", x.person(0, 5), 360);
    }

    private static void saidOfKinds() {
        String[] sentences = {"PLAIN as it is", "SHAMED without its last SYLLABLE (if it has two or more)",
            "DOUBLE as it is, twice, one behind the other", "DRUMMED as a DOUBLE one, each SYLLABLE of it takes twice its beats"};
        for (int kind = 0; kind < 4; kind++) {
            Check.about(sentences[kind]);
            for (int size = 1; size <= 10; size++) {
                DeedNames x = named(kind, size);
                int many = saidNumber(kind, size);
                Check.due("LONG of " + size, x.person(0, 4), many);
                Check.due("beats of " + size, x.person(0, 5), kind == 3 ? 2 * many : many);
                Check.due("its NAME has", x.person(0, 3), size);
                for (int k = 0; k < 20; k++) {
                    Check.due("said " + k + " of " + size, x.said(0, k), k < many ? syllable(k % size) : NONE);
                }
            }
        }
    }

    private static void said() {
        for (int kind = 0; kind < 4; kind++) {
            Check.about("BAD (k 0 to 19), KIND " + kind);
            int now = kind;
            Check.onlyTold("said", 0, 19, k -> named(now, 1).said(0, k));
            Check.onlyTold("said", 0, 19, k -> named(now, 10).said(0, k));
        }
        Check.about("The k-th SYLLABLE that is SAID of a PERSON. NONE");
        Check.due("the last one of twenty", named(2, 10).said(0, 19), 5);
        Check.due("the last one of ten", named(0, 10).said(0, 9), 5);
        Check.due("one more than ten", named(0, 10).said(0, 10), NONE);
        Check.due("the last one of nine that are SAID of ten", named(1, 10).said(0, 8), 4);
        Check.due("the tenth is not SAID", named(1, 10).said(0, 9), NONE);
        Check.due("19 of one", named(0, 1).said(0, 19), NONE);
        Check.due("none that has gone by shame", gone(), NONE);
    }

    private static int gone() {
        DeedNames x = named(0, 3);
        x.deed(0, 2);
        return x.said(0, 2);
    }

    private static void deedsThereAre() {
        Check.about("DEED D (0 to 5). BAD");
        Check.onlyTold("deed", 0, 5, d -> named(0, 3).deed(0, d));
        Check.onlyTold("deed of a name of 10, bad ahead of full", 0, 5, d -> named(0, 10).deed(0, d));
        Check.about("BAD: nothing changes then");
        int[] bad = {-1, 6, 7, Integer.MAX_VALUE, Integer.MIN_VALUE};
        for (int d : bad) {
            DeedNames x = named(0, 3);
            Check.due("deed " + d, x.deed(0, d), BAD);
            Check.due("its NAME has", x.person(0, 3), 3);
            Check.due("deed " + d + " of nobody", x.deed(1, 0), BAD);
            Check.due("its NAME has", x.person(0, 3), 3);
        }
    }

    private static void tenAtMost() {
        Check.about("its SYLLABLE comes behind the NAME (10 at most)");
        for (int d = 0; d < 6; d++) {
            DeedNames x = Check.laid("n0,0,5,0;n0,1,5,0;l0,5;l5,0;");
            int[] worth = {5, 1, 2, 3, 4, 0};
            for (int size = 2; size <= 10; size++) {
                Check.due("deed " + d, x.deed(0, d), size);
                Check.due("behind the NAME", x.said(0, size - 1), worth[d]);
                Check.due("the one ahead of it", x.said(0, size - 2), size == 2 ? 0 : worth[d]);
            }
            for (int other = 0; other < 6; other++) {
                Check.due("deed " + other + " of ten", x.deed(0, other), FULL);
            }
            Check.about("FULL: nothing changes then");
            Check.due("its NAME has", x.person(0, 3), 10);
            for (int k = 1; k < 10; k++) {
                Check.due("said " + k, x.said(0, k), worth[d]);
            }
            Check.due("the other's NAME has", x.person(1, 3), 1);
            Check.due("the other one's deed", x.deed(1, d), 2);
        }
    }

    private static void tenAtMostOfKinds() {
        Check.about("10 at most: of the NAME, not of what is SAID");
        for (int kind = 0; kind < 4; kind++) {
            DeedNames x = named(kind, 9);
            Check.due("deed of nine, KIND " + kind, x.deed(0, 0), 10);
            Check.due("deed of ten, KIND " + kind, x.deed(0, 0), FULL);
            Check.due("LONG", x.person(0, 4), saidNumber(kind, 10));
            Check.due("shame of ten, KIND " + kind, x.deed(0, 2), 9);
            Check.due("and ten again", x.deed(0, 1), 10);
            x.kind(0, 0);
            Check.due("the last one", x.said(0, 9), 1);
        }
    }

    private static void shameOfTwoOrMore() {
        Check.about("by a shame its last one goes (if it has two or more)");
        for (int kind = 0; kind < 4; kind++) {
            DeedNames x = named(kind, 10);
            for (int size = 9; size >= 1; size--) {
                Check.due("shame", x.deed(0, 2), size);
                Check.due("its NAME has", x.person(0, 3), size);
                Check.due("LONG", x.person(0, 4), saidNumber(kind, size));
            }
            Check.due("shame of one", x.deed(0, 2), 1);
            Check.due("and again", x.deed(0, 2), 1);
            Check.due("the first one stays", x.said(0, 0), 0);
            Check.due("a deed behind it", x.deed(0, 5), 2);
        }
    }

    private static void kind() {
        Check.about("KIND K (0 to 3). BAD");
        Check.onlyTold("kind", 0, 3, k -> named(0, 3).kind(0, k));
        Check.about("BAD: nothing changes then");
        int[] bad = {-1, 4, Integer.MIN_VALUE, Integer.MAX_VALUE};
        for (int k : bad) {
            DeedNames x = named(2, 3);
            Check.due("kind " + k, x.kind(0, k), BAD);
            Check.due("kind of nobody", x.kind(1, 0), BAD);
            Check.due("its KIND", x.person(0, 0), 2);
        }
        Check.about("Its KIND is changed: what it was");
        for (int was = 0; was < 4; was++) {
            for (int next = 0; next < 4; next++) {
                for (int size = 1; size <= 10; size += 3) {
                    DeedNames x = named(was, size);
                    Check.due("kind " + next, x.kind(0, next), was);
                    Check.due("its KIND", x.person(0, 0), next);
                    Check.due("its NAME has", x.person(0, 3), size);
                    Check.due("LONG", x.person(0, 4), saidNumber(next, size));
                    Check.due("kind again", x.kind(0, was), next);
                }
            }
        }
    }
}
