import java.util.List;
import java.util.function.Supplier;
import java.util.function.ToLongFunction;

/** "Nothing changes then": behind a call that is refused, or only asks, all that can be seen of an object is as it was. */
public final class RefusedTest {
    private static final int BAD = Check.BAD, NO = Check.NO, FULL = Check.FULL, NONE = Check.NONE;
    private static final int LEAST = Integer.MIN_VALUE, MOST = Integer.MAX_VALUE;
    private static final String HILL = "n0,0123,5,3;n1,01,7,0;n3,5,0,9;l1,4;k2;s0,2;s4,3;b3,2;m2;";

    public static void main(String[] args) {
        Supplier<DeedNames> fresh = DeedNames::new;
        refusedOnNew(fresh);
        for (Supplier<DeedNames> made : List.<Supplier<DeedNames>>of(RefusedTest::half, RefusedTest::full)) {
            badWrites(made);
            badPersons(made);
            badSets(made);
            badWarnings(made);
            badHearing(made);
            badYears(made);
            asked(made);
        }
        refusedOnFull();
        refusedLay();
        none();
        ofSeveralTheFirst();
        askedTwice();
        lastCall();
        Check.end();
    }

    // ---- objects to begin from

    /** One is KEPT, three HEARD, a TEXT is written that is not LAID. */
    private static DeedNames half() {
        DeedNames x = Check.laid(HILL);
        x.wipe();
        Check.write(x, "n2,444,1,1;k5;b9,8;");
        x.hear(0);
        x.hear(9);
        x.keep();
        x.deed(0, 1);
        x.kind(1, 2);
        x.hear(3);
        return x;
    }

    /** All is full: THE TEXT, which has a FAULT, a NAME, what is HEARD and KEPT. */
    private static DeedNames full() {
        DeedNames x = Check.laid(HILL);
        x.wipe();
        Check.write(x, "k1;".repeat(133) + "k");
        x.keep();
        x.deed(2, 3);
        x.kind(2, 2);
        x.hear(4);
        x.keep();
        for (int k = 0; k < 6; k++) {
            x.deed(0, 5 - k % 2);
        }
        for (int k = 0; k < 11; k++) {
            x.hear(k % 6);
        }
        return x;
    }

    // ---- all that can be seen

    private static void seeNow(DeedNames x, StringBuilder all) {
        for (int what = 0; what < 7; what++) {
            all.append(x.count(what)).append(' ');
        }
        int people = x.count(0);
        for (int i = 0; i < people; i++) {
            all.append("| ");
            for (int what = 0; what < 6; what++) {
                all.append(x.person(i, what)).append(' ');
            }
            for (int k = 0; k < 10; k++) {
                all.append(x.then(0, 0, i, k)).append(' ');
            }
            all.append(x.odds(i, 0)).append(' ').append(x.odds(i, 1)).append(' ');
        }
        all.append("| ").append(x.meant()).append(' ').append(x.fault()).append('\n');
    }

    /** What each DEED does, seen by doing it and going back. */
    private static void seeDeeds(DeedNames x, StringBuilder all) {
        int i = x.count(0) - 1;
        for (int d = 0; d < 6; d++) {
            x.keep();
            x.kind(i, 0);
            all.append(x.deed(i, d)).append(' ').append(x.said(i, x.person(i, 3) - 1)).append(' ').append(x.person(i, 5)).append(' ');
            x.back();
        }
        all.append('\n');
    }

    /** Uses the object up: goes back through what is KEPT, and lays THE TEXT. */
    private static String whole(DeedNames x) {
        StringBuilder all = new StringBuilder();
        seeNow(x, all);
        int kept = x.count(3);
        for (int k = 0; k < kept; k++) {
            all.append(x.back()).append(": ");
            seeNow(x, all);
        }
        seeDeeds(x, all);
        all.append(x.lay()).append(": ");
        seeNow(x, all);
        all.append(x.wipe());
        return all.toString();
    }

    private static void unchanged(String call, Supplier<DeedNames> made, ToLongFunction<DeedNames> asked) {
        DeedNames x = made.get();
        asked.applyAsLong(x);
        Check.same("what is seen behind " + call, whole(x), whole(made.get()));
    }

    private static void refused(String call, Supplier<DeedNames> made, ToLongFunction<DeedNames> asked, int due) {
        Check.due(call, asked.applyAsLong(made.get()), due);
        unchanged(call, made, asked);
    }

    // ---- calls that are refused

    private static void refusedOnNew(Supplier<DeedNames> fresh) {
        Check.about("NO: not as things stand; a new object");
        refused("back", fresh, x -> x.back(), NO);
        refused("lay", fresh, x -> x.lay(), NO);
        Check.about("NONE: there is none; a new object");
        refused("meant", fresh, x -> x.meant(), NONE);
        refused("odds", fresh, x -> x.odds(0, 0), NONE);
        refused("said 2", fresh, x -> x.said(0, 2), NONE);
        refused("called by 0", fresh, x -> x.called(0, 0), NONE);
        refused("then 2", fresh, x -> x.then(0, 0, 0, 2), NONE);
    }

    private static void badWrites(Supplier<DeedNames> made) {
        Check.about("write: BAD: nothing changes then");
        int[] sizes = {0, 9, -1, LEAST, MOST, 257};
        for (int n : sizes) {
            refused("write " + n, made, x -> x.write(n, 0x6b313b6b313b6b31L), BAD);
        }
    }

    private static void badPersons(Supplier<DeedNames> made) {
        int[] nobody = {-1, 3, 8, 32, LEAST, MOST};
        for (int i : nobody) {
            Check.about("PERSONS: such as there are: BAD: nothing changes then");
            refused("person", made, x -> x.person(i, 0), BAD);
            refused("said", made, x -> x.said(i, 0), BAD);
            refused("deed", made, x -> x.deed(i, 0), BAD);
            refused("deed of shame", made, x -> x.deed(i, 2), BAD);
            refused("kind", made, x -> x.kind(i, 1), BAD);
            refused("shortCall", made, x -> x.shortCall(i, 7), BAD);
            refused("apart", made, x -> x.apart(i, 7, 0), BAD);
            refused("odds", made, x -> x.odds(i, 0), BAD);
            refused("then", made, x -> x.then(1, 1, i, 0), BAD);
        }
        Check.about("numbers that are not told: BAD: nothing changes then");
        int[] far = {-1, 20, LEAST, MOST};
        for (int v : far) {
            refused("person, " + v, made, x -> x.person(0, v), BAD);
            refused("said, " + v, made, x -> x.said(0, v), BAD);
            refused("deed, " + v, made, x -> x.deed(0, v), BAD);
            refused("deed, " + v, made, x -> x.deed(1, v), BAD);
            refused("kind, " + v, made, x -> x.kind(0, v), BAD);
            refused("count, " + v, made, x -> x.count(v), BAD);
            refused("odds, " + v, made, x -> x.odds(0, v), BAD);
            refused("apart, " + v, made, x -> x.apart(1, 7, v), BAD);
        }
        refused("person, 6", made, x -> x.person(0, 6), BAD);
        refused("deed, 6", made, x -> x.deed(1, 6), BAD);
        refused("kind, 4", made, x -> x.kind(1, 4), BAD);
        refused("count, 7", made, x -> x.count(7), BAD);
        refused("odds, 2", made, x -> x.odds(0, 2), BAD);
        refused("apart, 2", made, x -> x.apart(1, 7, 2), BAD);
    }

    private static void badSets(Supplier<DeedNames> made) {
        Check.about("sets of these, not empty: BAD: nothing changes then");
        int[] none = {0, 8, 9, -1, LEAST, MOST};
        for (int set : none) {
            refused("cry " + set, made, x -> x.cry(set), BAD);
            refused("greet " + set, made, x -> x.greet(set, -1), BAD);
            refused("greet " + set, made, x -> x.greet(set, 0), BAD);
            refused("shortCall " + set, made, x -> x.shortCall(0, set), BAD);
            refused("allShort " + set, made, x -> x.allShort(set), BAD);
            refused("apart " + set, made, x -> x.apart(0, set, 0), BAD);
        }
        Check.about("BAD (not of the set, too): nothing changes then");
        refused("shortCall", made, x -> x.shortCall(0, 6), BAD);
        refused("apart", made, x -> x.apart(0, 6, 0), BAD);
        refused("apart", made, x -> x.apart(2, 3, 1), BAD);
    }

    private static void badWarnings(Supplier<DeedNames> made) {
        Check.about("WARNING, COUNCIL: BAD: nothing changes then");
        int[] far = {-1, 1000, LEAST, MOST};
        for (int v : far) {
            refused("warn " + v, made, x -> x.warn(v, 0), BAD);
            refused("warn, " + v, made, x -> x.warn(50, v), BAD);
            refused("called " + v, made, x -> x.called(v, 0), BAD);
            refused("called, " + v, made, x -> x.called(50, v), BAD);
            refused("greet, " + v, made, x -> x.greet(7, v == -1 ? -2 : v), BAD);
        }
        refused("warn, 2", made, x -> x.warn(50, 2), BAD);
        refused("called, 8", made, x -> x.called(50, 8), BAD);
        refused("greet, 8", made, x -> x.greet(7, 8), BAD);
    }

    private static void badHearing(Supplier<DeedNames> made) {
        Check.about("hear: BAD: nothing changes then");
        int[] none = {-1, 6, 7, 8, 10, LEAST, MOST};
        for (int s : none) {
            refused("hear " + s, made, x -> x.hear(s), BAD);
        }
    }

    private static void badYears(Supplier<DeedNames> made) {
        Check.about("A HILL: BAD: nothing changes then");
        int[] far = {-1, 10000, LEAST, MOST};
        for (int v : far) {
            refused("years " + v, made, x -> x.years(v, 5, 0), BAD);
            refused("years, " + v, made, x -> x.years(5, v, 0), BAD);
            refused("years, , " + v, made, x -> x.years(5, 5, v), BAD);
            refused("then " + v, made, x -> x.then(v, 5, 0, 0), BAD);
            refused("then, " + v, made, x -> x.then(5, v, 0, 0), BAD);
            refused("then, , , " + v, made, x -> x.then(5, 5, 0, v), BAD);
        }
        refused("years, 61", made, x -> x.years(5, 61, 0), BAD);
        refused("years, , 3", made, x -> x.years(5, 5, 3), BAD);
        refused("then, 61", made, x -> x.then(5, 61, 0, 0), BAD);
        refused("then, , , 10", made, x -> x.then(5, 5, 0, 10), BAD);
    }

    private static void refusedOnFull() {
        Check.about("FULL: nothing changes then");
        for (int n = 1; n <= 8; n++) {
            int bytes = n;
            refused("write " + n, RefusedTest::full, x -> x.write(bytes, 0x6b313b6b313b6b31L), FULL);
        }
        int[] deeds = {0, 1, 3, 4, 5};
        for (int d : deeds) {
            refused("deed " + d, RefusedTest::full, x -> x.deed(0, d), FULL);
        }
        int[] heard = {0, 5, 9};
        for (int s : heard) {
            refused("hear " + s, RefusedTest::full, x -> x.hear(s), FULL);
        }
        refused("keep", RefusedTest::full, x -> x.keep(), FULL);
        refused("apart", RefusedTest::full, x -> x.apart(0, 7, 0), FULL);
        refused("apart", RefusedTest::full, x -> x.apart(0, 1, 1), FULL);
    }

    private static void refusedLay() {
        Check.about("LAID .. NO: nothing changes then");
        refused("lay of a FAULT", RefusedTest::full, x -> x.lay(), NO);
        String[] texts = {"", "k0;b9,9;m7;l1,5;s0,9;", "n2,5,5,5;k0;b9,9;m7;l1,5;s0,9;x", "n0,0,0,0;".repeat(9)};
        for (String text : texts) {
            refused("lay of " + text, () -> written(text), x -> x.lay(), NO);
            unchanged("fault of " + text, () -> written(text), x -> x.fault());
        }
    }

    private static DeedNames written(String text) {
        DeedNames x = half();
        x.wipe();
        Check.write(x, text);
        return x;
    }

    private static void none() {
        Check.about("NONE: nothing changes then");
        refused("said 19", RefusedTest::half, x -> x.said(0, 19), NONE);
        refused("called by 0", RefusedTest::half, x -> x.called(0, 0), NONE);
        refused("greet the eighth", RefusedTest::half, x -> x.greet(7, 7), NONE);
        refused("then 9", RefusedTest::half, x -> x.then(0, 0, 0, 9), NONE);
        refused("shortCall", RefusedTest::alike, x -> x.shortCall(0, 3), NONE);
        refused("allShort", RefusedTest::alike, x -> x.allShort(3), NONE);
        refused("apart", RefusedTest::alike, x -> x.apart(0, 3, 0), NONE);
        refused("odds", RefusedTest::alike, x -> x.odds(0, 0), NONE);
        refused("meant", RefusedTest::alike, x -> x.meant(), NONE);
        refused("fault", RefusedTest::half, x -> x.fault(), NONE);
    }

    /** Two ways to be refused by one call: BAD stands ahead of NONE and FULL. */
    private static void ofSeveralTheFirst() {
        Check.about("Of several the first; nothing changes then");
        refused("write of none, and no room", RefusedTest::full, x -> x.write(0, 0), BAD);
        refused("write of nine, and no room", RefusedTest::full, x -> x.write(9, 0), BAD);
        refused("deed 6 of a NAME of 10", RefusedTest::full, x -> x.deed(0, 6), BAD);
        refused("hear 6, and no room", RefusedTest::full, x -> x.hear(6), BAD);
        refused("apart of a NAME of 10, not of the set", RefusedTest::full, x -> x.apart(0, 6, 0), BAD);
        refused("apart of a NAME of 10, what is 2", RefusedTest::full, x -> x.apart(0, 7, 2), BAD);
        refused("said of nobody, behind its end", RefusedTest::half, x -> x.said(3, 19), BAD);
        refused("called by 1000, behind the last", RefusedTest::half, x -> x.called(1000, 7), BAD);
        refused("called by 0, not a place", RefusedTest::half, x -> x.called(0, 8), BAD);
        refused("greet no set, behind the last", RefusedTest::half, x -> x.greet(8, 7), BAD);
        refused("shortCall of alike ones, not of the set", RefusedTest::alike, x -> x.shortCall(2, 3), BAD);
        refused("allShort of alike ones, and of more than there are", RefusedTest::alike, x -> x.allShort(7), BAD);
        refused("apart of alike ones, what is 2", RefusedTest::alike, x -> x.apart(0, 3, 2), BAD);
        refused("odds without weight, part is 2", RefusedTest::alike, x -> x.odds(0, 2), BAD);
        refused("odds without weight, of nobody", RefusedTest::alike, x -> x.odds(2, 0), BAD);
        refused("then by 10000, behind its end", RefusedTest::half, x -> x.then(10000, 0, 0, 9), BAD);
        refused("then behind 61 YEARS, behind its end", RefusedTest::half, x -> x.then(0, 61, 0, 9), BAD);
        refused("then of nobody, behind its end", RefusedTest::half, x -> x.then(0, 0, 3, 9), BAD);
    }

    private static DeedNames alike() {
        DeedNames x = Check.laid("n0,01,5,0;n0,01,5,0;");
        x.hear(3);
        x.keep();
        x.hear(9);
        x.hear(9);
        return x;
    }

    // ---- calls that only ask

    private static void asked(Supplier<DeedNames> made) {
        Check.about("only asked");
        unchanged("fault", made, x -> x.fault());
        unchanged("person", made, x -> x.person(2, 5));
        unchanged("said", made, x -> x.said(2, 1));
        unchanged("cry", made, x -> x.cry(7));
        unchanged("warn", made, x -> x.warn(40, 1));
        unchanged("called", made, x -> x.called(40, 0));
        unchanged("greet", made, x -> x.greet(7, -1));
        unchanged("greet", made, x -> x.greet(7, 2));
        unchanged("shortCall", made, x -> x.shortCall(1, 7));
        unchanged("allShort", made, x -> x.allShort(7));
        unchanged("apart", made, x -> x.apart(1, 7, 0));
        unchanged("odds", made, x -> x.odds(1, 1));
        unchanged("meant", made, x -> x.meant());
        unchanged("years", made, x -> x.years(77, 60, 0));
        unchanged("years", made, x -> x.years(77, 60, 2));
        unchanged("then", made, x -> x.then(77, 60, 2, 3));
        unchanged("count", made, x -> x.count(0));
    }

    /** All that asks, one behind the other, in turn and the other way round: each answers as it did. */
    private static void askedTwice() {
        Check.about("only asked: the same answer again");
        DeedNames x = half();
        List<ToLongFunction<DeedNames>> calls = List.of(
            y -> y.cry(5), y -> y.warn(12, 1), y -> y.called(25, 1), y -> y.called(12, 1), y -> y.greet(7, -1), y -> y.greet(6, 1),
            y -> y.greet(7, 2), y -> y.allShort(7), y -> y.apart(1, 7, 0), y -> y.apart(1, 3, 1), y -> y.years(5, 60, 0),
            y -> y.years(5, 30, 2), y -> y.then(5, 60, 2, 3), y -> y.shortCall(1, 7), y -> y.fault(), y -> y.meant());
        long[] first = new long[calls.size()];
        for (int k = 0; k < first.length; k++) {
            first[k] = calls.get(k).applyAsLong(half());
        }
        for (int k = 0; k < first.length; k++) {
            for (int j = 0; j < first.length; j++) {
                if ((k + j) % 2 == 0) {
                    Check.due("call " + k, calls.get(k).applyAsLong(x), first[k]);
                    Check.due("call " + j, calls.get(j).applyAsLong(x), first[j]);
                }
            }
        }
    }

    private static void lastCall() {
        Check.about("An object is used for at most 512 calls");
        DeedNames x = new DeedNames();
        for (int calls = 0; calls < 508; calls += 4) {
            Check.due("keep", x.keep(), 1);
            Check.due("deed", x.deed(0, 5), 3);
            Check.due("hear", x.hear(0), 1);
            Check.due("back", x.back(), 0);
        }
        Check.due("keep", x.keep(), 1);
        Check.due("deed", x.deed(0, 5), 3);
        Check.due("then", x.then(0, 0, 0, 2), 5);
        Check.due("the 512th call", x.back(), 0);
    }
}
