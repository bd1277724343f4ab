/**
 * Named by the deed: a hill people, its names, its herald, its calls and its years.
 * The terms in the comments (SAID, CALLED, SHORT, ..) are those of the document.
 */
public final class DeedNames {
    public static final int BAD = -1, NO = -2, FULL = -3, NONE = -4;

    private static final int SHAMED = 1, DOUBLE = 2, DRUMMED = 3;
    private static final int MOST_BYTES = 400;
    private static final int MOST_PERSONS = 8;
    private static final int ALL_SETS = 256;
    private static final int TOLD_SYLLABLES = 6;
    private static final int MOST_SYLLABLES = 10;
    private static final int MOST_SAID = 20;
    private static final int SOUNDS = 6;
    private static final int MOST_HEARD = 12;
    private static final int NOT_HEARD = 9;
    private static final int MOST_KEPT = 2;
    private static final int MOST_YEARS = 60;
    private static final int[] FIRST_NAME = {0, 1};

    private final Scroll scroll;
    private Hill hill;
    private Hill draft;
    private final Memory now;
    private final Memory keptFirst;
    private final Memory keptSecond;
    private int keptNumber;
    private final Herald herald;
    private final Names trial;

    public DeedNames() {
        scroll = new Scroll();
        hill = new Hill();
        draft = new Hill();
        now = new Memory();
        keptFirst = new Memory();
        keptSecond = new Memory();
        keptNumber = 0;
        herald = new Herald();
        trial = new Names();
        hill.settle(0, FIRST_NAME, FIRST_NAME.length, 5, 0);
        now.names.copyFrom(hill.names);
    }

    // ---- hills

    public int write(int n, long v) {
        if (!within(n, 1, 8)) {
            return BAD;
        }
        if (!scroll.hasRoom(n)) {
            return FULL;
        }
        scroll.put(n, v);
        return scroll.length;
    }

    public int wipe() {
        int was = scroll.length;
        scroll.length = 0;
        return was;
    }

    public int fault() {
        return scroll.readInto(draft);
    }

    public int lay() {
        if (scroll.readInto(draft) != NONE || draft.names.people == 0) {
            return NO;
        }
        Hill old = hill;
        hill = draft;
        draft = old;
        now.names.copyFrom(hill.names);
        now.ear.empty();
        keptNumber = 0;
        return now.names.people;
    }

    public int person(int i, int what) {
        if (!now.names.has(i)) {
            return BAD;
        }
        switch (what) {
            case 0:
                return now.names.kindOf(i);
            case 1:
                return hill.pacesOf(i);
            case 2:
                return hill.rankOf(i);
            case 3:
                return now.names.sizeOf(i);
            case 4:
                return now.names.longOf(i);
            case 5:
                return hill.beatsOf(now.names, i);
            default:
                return BAD;
        }
    }

    public int said(int i, int k) {
        if (!now.names.has(i) || !within(k, 0, MOST_SAID - 1)) {
            return BAD;
        }
        return now.names.saidAt(i, k);
    }

    public int deed(int i, int d) {
        if (!now.names.has(i) || !within(d, 0, SOUNDS - 1)) {
            return BAD;
        }
        return hill.doDeed(now.names, i, d) ? now.names.sizeOf(i) : FULL;
    }

    public int kind(int i, int k) {
        if (!now.names.has(i) || !within(k, 0, DRUMMED)) {
            return BAD;
        }
        return now.names.changeKind(i, k);
    }

    // ---- calls

    public int cry(int set) {
        if (!isSet(set)) {
            return BAD;
        }
        herald.learn(hill, now.names);
        return herald.beatsToCall(set);
    }

    public int warn(int l, int what) {
        if (!within(l, 0, 999) || !within(what, 0, 1)) {
            return BAD;
        }
        herald.learn(hill, now.names);
        int saved = herald.mostSaved(l);
        return what == 0 ? Integer.bitCount(saved) : saved;
    }

    public int called(int l, int i) {
        if (!within(l, 0, 999) || !within(i, 0, MOST_PERSONS - 1)) {
            return BAD;
        }
        herald.learn(hill, now.names);
        herald.orderWarning(herald.mostSaved(l), l);
        return herald.inOrder(i);
    }

    public int greet(int set, int i) {
        if (!isSet(set) || !within(i, -1, MOST_PERSONS - 1)) {
            return BAD;
        }
        herald.learn(hill, now.names);
        int fewest = herald.fewestBreaths(set);
        if (i == -1) {
            return fewest;
        }
        herald.orderCouncil(set, fewest);
        return herald.inOrder(i);
    }

    public int shortCall(int i, int set) {
        if (!isSet(set) || !isOf(i, set)) {
            return BAD;
        }
        return now.names.shortest(i, set);
    }

    public int allShort(int set) {
        if (!isSet(set)) {
            return BAD;
        }
        return now.names.sumOfShortest(set);
    }

    public int apart(int i, int set, int what) {
        if (!isSet(set) || !isOf(i, set) || !within(what, 0, 1)) {
            return BAD;
        }
        if (now.names.sizeOf(i) >= MOST_SYLLABLES) {
            return FULL;
        }
        int which = NONE;
        int least = NONE;
        trial.copyFrom(now.names);
        for (int s = 0; s < SOUNDS; s++) {
            trial.gain(i, s);
            int sum = trial.sumOfShortest(set);
            trial.lose(i);
            if (sum != NONE && (least == NONE || sum < least)) {
                which = s;
                least = sum;
            }
        }
        return what == 0 ? which : least;
    }

    // ---- half heard

    public int hear(int s) {
        if (!within(s, 0, SOUNDS - 1) && s != NOT_HEARD) {
            return BAD;
        }
        return now.ear.take(s) ? now.ear.size : FULL;
    }

    public int forget() {
        int was = now.ear.size;
        now.ear.empty();
        return was;
    }

    public long odds(int i, int part) {
        if (!now.names.has(i) || !within(part, 0, 1)) {
            return BAD;
        }
        long all = 0;
        for (int j = 0; j < now.names.people; j++) {
            all += weightOf(j);
        }
        long own = weightOf(i);
        long divisor = commonDivisor(all, own);
        if (all < 1 || divisor < 1) {
            return NONE;
        }
        return part == 0 ? own / divisor : all / divisor;
    }

    public int meant() {
        int who = NONE;
        long greatest = 0;
        for (int i = 0; i < now.names.people; i++) {
            long weight = weightOf(i);
            if (weight > greatest) {
                who = i;
                greatest = weight;
            }
        }
        return who;
    }

    // ---- years

    public int years(int z, int y, int what) {
        if (!isHillTime(z, y) || !within(what, 0, 2)) {
            return BAD;
        }
        hill.liveYears(trial, now.names, z, y);
        switch (what) {
            case 0:
                herald.learn(hill, trial);
                return herald.beatsToCall(everyone());
            case 1:
                return trial.longest();
            default:
                return trial.numberOfShort(everyone());
        }
    }

    public int then(int z, int y, int i, int k) {
        if (!isHillTime(z, y) || !now.names.has(i) || !within(k, 0, MOST_SYLLABLES - 1)) {
            return BAD;
        }
        hill.liveYears(trial, now.names, z, y);
        return trial.syllableAt(i, k);
    }

    public int keep() {
        if (keptNumber >= MOST_KEPT) {
            return FULL;
        }
        keptPlace(keptNumber).copyFrom(now);
        keptNumber++;
        return keptNumber;
    }

    public int back() {
        if (keptNumber < 1) {
            return NO;
        }
        keptNumber--;
        now.copyFrom(keptPlace(keptNumber));
        return keptNumber;
    }

    public int count(int what) {
        switch (what) {
            case 0:
                return now.names.people;
            case 1:
                return now.ear.size;
            case 2:
                return scroll.length;
            case 3:
                return keptNumber;
            case 4:
                return hill.inBreath;
            case 5:
                return hill.toDraw;
            case 6:
                return hill.misheard;
            default:
                return BAD;
        }
    }

    // ---- helpers

    private static boolean within(int value, int least, int most) {
        return value >= least && value <= most;
    }

    private static boolean isOf(int i, int set) {
        return within(i, 0, MOST_PERSONS - 1) && (set & (1 << i)) != 0;
    }

    private static boolean isHillTime(int z, int y) {
        return within(z, 0, 9999) && within(y, 0, MOST_YEARS);
    }

    /** Euclid's way; numbers of 64 bits need fewer than 100 steps. */
    private static long commonDivisor(long a, long b) {
        for (int step = 0; step < 100 && b != 0; step++) {
            long rest = a % b;
            a = b;
            b = rest;
        }
        return a;
    }

    private int everyone() {
        return (1 << now.names.people) - 1;
    }

    private boolean isSet(int set) {
        return within(set, 1, everyone());
    }

    private long weightOf(int i) {
        return now.ear.likeness(now.names, i, hill.misheard) * (hill.rankOf(i) + 1);
    }

    private Memory keptPlace(int k) {
        return k == 0 ? keptFirst : keptSecond;
    }

    /** THE TEXT, which is read ITEM by ITEM into a HILL. */
    private static final class Scroll {
        private static final int END = -1;
        private static final int FAULTY = -1;
        private final byte[] bytes = new byte[MOST_BYTES];
        int length = 0;
        private int place = 0;
        private final int[] name = new int[TOLD_SYLLABLES];

        boolean hasRoom(int n) {
            return n <= MOST_BYTES - length;
        }

        void put(int n, long v) {
            for (int i = n - 1; i >= 0 && length < MOST_BYTES; i--) {
                bytes[length] = (byte) (v >>> (8 * i));
                length++;
            }
        }

        /** The FAULT, or NONE; the HILL is whole only behind NONE. */
        int readInto(Hill into) {
            into.empty();
            place = 0;
            for (int items = 0; items < MOST_BYTES && place < length; items++) {
                int first = place;
                if (!readItem(into)) {
                    return first;
                }
            }
            return NONE;
        }

        private boolean readItem(Hill into) {
            int letter = here();
            place++;
            switch (letter) {
                case 'n':
                    return readPerson(into);
                case 'l':
                    return readWorth(into);
                case 'k':
                    return readShame(into);
                case 's':
                    return readBeats(into);
                case 'b':
                    return readBreath(into);
                case 'm':
                    return readMisheard(into);
                default:
                    return false;
            }
        }

        private boolean readPerson(Hill into) {
            int kind = number(0, DRUMMED, ',');
            if (kind == FAULTY) {
                return false;
            }
            int size = readName();
            if (size == FAULTY) {
                return false;
            }
            int paces = number(0, 99, ',');
            if (paces == FAULTY) {
                return false;
            }
            int rank = number(0, 9, ';');
            return rank != FAULTY && into.settle(kind, name, size, paces, rank);
        }

        private boolean readWorth(Hill into) {
            int deed = number(0, SOUNDS - 1, ',');
            if (deed == FAULTY) {
                return false;
            }
            int syllable = number(0, SOUNDS - 1, ';');
            if (syllable == FAULTY) {
                return false;
            }
            into.worth[deed] = syllable;
            return true;
        }

        private boolean readShame(Hill into) {
            int deed = number(0, SOUNDS - 1, ';');
            if (deed == FAULTY) {
                return false;
            }
            into.shame[deed] = true;
            return true;
        }

        private boolean readBeats(Hill into) {
            int syllable = number(0, SOUNDS - 1, ',');
            if (syllable == FAULTY) {
                return false;
            }
            int beats = number(1, 9, ';');
            if (beats == FAULTY) {
                return false;
            }
            into.beats[syllable] = beats;
            return true;
        }

        private boolean readBreath(Hill into) {
            int inBreath = number(1, 12, ',');
            if (inBreath == FAULTY) {
                return false;
            }
            int toDraw = number(0, 20, ';');
            if (toDraw == FAULTY) {
                return false;
            }
            into.inBreath = inBreath;
            into.toDraw = toDraw;
            return true;
        }

        private boolean readMisheard(Hill into) {
            int misheard = number(0, 9, ';');
            if (misheard == FAULTY) {
                return false;
            }
            into.misheard = misheard;
            return true;
        }

        /** The byte at the place that is read, or END. */
        private int here() {
            return within(place, 0, length - 1) ? bytes[place] & 255 : END;
        }

        /** One to three figures and the byte behind them, or FAULTY. */
        private int number(int least, int most, int behind) {
            int value = 0;
            int figures = 0;
            while (figures < 3 && within(here(), '0', '9')) {
                value = value * 10 + here() - '0';
                figures++;
                place++;
            }
            if (figures == 0 || here() != behind || !within(value, least, most)) {
                return FAULTY;
            }
            place++;
            return value;
        }

        /** Puts F into name: how many SYLLABLES it has, or FAULTY. */
        private int readName() {
            int size = 0;
            while (size < TOLD_SYLLABLES && within(here(), '0', '5')) {
                name[size] = here() - '0';
                size++;
                place++;
            }
            if (size == 0 || here() != ',') {
                return FAULTY;
            }
            place++;
            return size;
        }
    }

    /** NAMES and KINDS of PERSONS, and the CALLS that these make. */
    private static final class Names {
        private final int[] kinds = new int[MOST_PERSONS];
        private final int[] sizes = new int[MOST_PERSONS];
        private final int[] syllables = new int[MOST_PERSONS * MOST_SYLLABLES];
        int people = 0;

        void copyFrom(Names other) {
            System.arraycopy(other.kinds, 0, kinds, 0, MOST_PERSONS);
            System.arraycopy(other.sizes, 0, sizes, 0, MOST_PERSONS);
            System.arraycopy(other.syllables, 0, syllables, 0, MOST_PERSONS * MOST_SYLLABLES);
            people = other.people;
        }

        boolean has(int i) {
            return i >= 0 && i < people;
        }

        boolean enter(int kind, int[] name, int size) {
            if (people >= MOST_PERSONS) {
                return false;
            }
            int i = people;
            people++;
            kinds[i] = kind;
            sizes[i] = 0;
            for (int k = 0; k < size && k < name.length && k < MOST_SYLLABLES; k++) {
                syllables[i * MOST_SYLLABLES + k] = name[k];
                sizes[i]++;
            }
            return true;
        }

        int kindOf(int i) {
            return has(i) ? kinds[i] : 0;
        }

        int changeKind(int i, int kind) {
            int was = kindOf(i);
            if (has(i)) {
                kinds[i] = kind;
            }
            return was;
        }

        int sizeOf(int i) {
            return has(i) ? sizes[i] : 0;
        }

        int longOf(int i) {
            if (!has(i)) {
                return 0;
            }
            int size = sizes[i];
            switch (kinds[i]) {
                case SHAMED:
                    return size >= 2 ? size - 1 : size;
                case DOUBLE:
                case DRUMMED:
                    return 2 * size;
                default:
                    return size;
            }
        }

        int longest() {
            int most = 0;
            for (int i = 0; i < people; i++) {
                most = Math.max(most, longOf(i));
            }
            return most;
        }

        int syllableAt(int i, int k) {
            return has(i) && within(k, 0, sizes[i] - 1) ? syllables[i * MOST_SYLLABLES + k] : NONE;
        }

        int saidAt(int i, int k) {
            if (!within(k, 0, longOf(i) - 1)) {
                return NONE;
            }
            int size = sizeOf(i);
            return syllableAt(i, k < size ? k : k - size);
        }

        boolean gain(int i, int s) {
            if (!has(i) || sizes[i] >= MOST_SYLLABLES) {
                return false;
            }
            syllables[i * MOST_SYLLABLES + sizes[i]] = s;
            sizes[i]++;
            return true;
        }

        void lose(int i) {
            if (has(i) && sizes[i] >= 2) {
                sizes[i]--;
            }
        }

        /** How many SYLLABLES that are SAID first are the same. */
        private int alike(int i, int j) {
            int most = Math.min(longOf(i), longOf(j));
            int k = 0;
            while (k < most && saidAt(i, k) == saidAt(j, k)) {
                k++;
            }
            return k;
        }

        /** SHORT: another one answers as long as the CALL is no longer than what is alike. */
        int shortest(int i, int set) {
            int answered = 0;
            for (int j = 0; j < people; j++) {
                if (j != i && isOf(j, set)) {
                    answered = Math.max(answered, alike(i, j));
                }
            }
            int whole = longOf(i);
            if (answered >= whole) {
                return NONE;
            }
            return kindOf(i) == DRUMMED ? whole : answered + 1;
        }

        int sumOfShortest(int set) {
            int sum = 0;
            for (int i = 0; i < people; i++) {
                if (isOf(i, set)) {
                    int own = shortest(i, set);
                    if (own == NONE) {
                        return NONE;
                    }
                    sum += own;
                }
            }
            return sum;
        }

        int numberOfShort(int set) {
            int number = 0;
            for (int i = 0; i < people; i++) {
                if (isOf(i, set) && shortest(i, set) != NONE) {
                    number++;
                }
            }
            return number;
        }
    }

    /** All that a TEXT tells. */
    private static final class Hill {
        final Names names = new Names();
        private final int[] paces = new int[MOST_PERSONS];
        private final int[] ranks = new int[MOST_PERSONS];
        final int[] worth = new int[SOUNDS];
        final boolean[] shame = new boolean[SOUNDS];
        final int[] beats = new int[SOUNDS];
        int inBreath;
        int toDraw;
        int misheard;

        Hill() {
            empty();
        }

        void empty() {
            names.people = 0;
            for (int d = 0; d < SOUNDS; d++) {
                worth[d] = d;
                shame[d] = false;
                beats[d] = 1;
            }
            inBreath = 4;
            toDraw = 3;
            misheard = 1;
        }

        boolean settle(int kind, int[] name, int size, int pacesOff, int rank) {
            int i = names.people;
            if (!within(i, 0, MOST_PERSONS - 1) || !names.enter(kind, name, size)) {
                return false;
            }
            paces[i] = pacesOff;
            ranks[i] = rank;
            return true;
        }

        int pacesOf(int i) {
            return names.has(i) ? paces[i] : 0;
        }

        int rankOf(int i) {
            return names.has(i) ? ranks[i] : 0;
        }

        /** Beats of a NAME that is SAID alone, without breaths. */
        int beatsOf(Names of, int i) {
            int sum = 0;
            int length = of.longOf(i);
            for (int k = 0; k < length; k++) {
                int s = of.saidAt(i, k);
                sum += within(s, 0, SOUNDS - 1) ? beats[s] : 0;
            }
            return of.kindOf(i) == DRUMMED ? 2 * sum : sum;
        }

        /** False if the NAME is too long for the DEED. */
        boolean doDeed(Names of, int i, int d) {
            if (!within(d, 0, SOUNDS - 1)) {
                return false;
            }
            if (shame[d]) {
                of.lose(i);
                return true;
            }
            return of.gain(i, worth[d]);
        }

        void liveYears(Names into, Names from, int z, int y) {
            into.copyFrom(from);
            for (int t = 0; t < y && t < MOST_YEARS; t++) {
                for (int i = 0; i < into.people; i++) {
                    doDeed(into, i, drawnDeed(z, i, t));
                }
            }
        }

        private static int drawnDeed(int z, int i, int t) {
            long x = 7919L * z + 6151L * i + 3571L * t + 1;
            return (int) (x * x % 65521 % 12);
        }
    }

    /** Says names aloud: how long it takes, who is saved by it, who is greeted when. */
    private static final class Herald {
        /** A packing is breaths times this and what the last of them holds: fewer breaths are always less. */
        private static final int BREATH = 16;
        private int people = 0;
        private int inBreath = 1;
        private int toDraw = 0;
        private final int[] longs = new int[MOST_PERSONS];
        private final int[] beats = new int[MOST_PERSONS];
        private final int[] paces = new int[MOST_PERSONS];
        private final int[] ranks = new int[MOST_PERSONS];
        private final int[] times = new int[ALL_SETS];
        private final boolean[] works = new boolean[ALL_SETS];
        private final int[] higher = new int[MOST_PERSONS];
        private final int[] packings = new int[ALL_SETS];
        private final int[] order = new int[MOST_PERSONS];
        private int ordered = 0;

        void learn(Hill hill, Names names) {
            people = Math.min(names.people, MOST_PERSONS);
            inBreath = hill.inBreath;
            toDraw = hill.toDraw;
            for (int i = 0; i < people; i++) {
                longs[i] = names.longOf(i);
                beats[i] = hill.beatsOf(names, i);
                paces[i] = hill.pacesOf(i);
                ranks[i] = hill.rankOf(i);
            }
        }

        /** The i-th of the last order that was made. */
        int inOrder(int i) {
            return within(i, 0, ordered - 1) && i < MOST_PERSONS ? order[i] : NONE;
        }

        private int breathsFor(int syllables) {
            return inBreath < 1 ? 0 : (syllables + inBreath - 1) / inBreath;
        }

        /** CRY; a set takes as long in whatever order it is CALLED. */
        int beatsToCall(int set) {
            int sum = 0;
            int syllables = 0;
            for (int i = 0; i < people; i++) {
                if (isOf(i, set)) {
                    sum += beats[i];
                    syllables += longs[i];
                }
            }
            return syllables == 0 ? sum : sum + toDraw * (breathsFor(syllables) - 1);
        }

        /** The set of a WARNING; times tells the beats of each set from here on. */
        int mostSaved(int limit) {
            int best = 0;
            times[0] = 0;
            works[0] = true;
            for (int set = 1; set < (1 << people); set++) {
                times[set] = beatsToCall(set);
                works[set] = someoneCanBeLast(set, limit);
                if (works[set] && Integer.bitCount(set) > Integer.bitCount(best)) {
                    best = set;
                }
            }
            return best;
        }

        private boolean someoneCanBeLast(int set, int limit) {
            for (int i = 0; i < people; i++) {
                if (isOf(i, set) && works[set ^ (1 << i)] && times[set] + paces[i] <= limit) {
                    return true;
                }
            }
            return false;
        }

        /** The order of a WARNING, behind mostSaved; works now tells from which sets one can go on to all saved. */
        void orderWarning(int saved, int limit) {
            for (int done = saved; done >= 0; done--) {
                boolean part = (done & saved) == done;
                works[done] = part && (done == saved || nextSaved(done, saved, limit) != NONE);
            }
            ordered = 0;
            int done = 0;
            for (int k = 0; k < MOST_PERSONS && done != saved; k++) {
                int i = nextSaved(done, saved, limit);
                if (i == NONE) {
                    return;
                }
                order[k] = i;
                ordered++;
                done |= 1 << i;
            }
        }

        private int nextSaved(int done, int saved, int limit) {
            for (int i = 0; i < people; i++) {
                int more = done | (1 << i);
                if (isOf(i, saved & ~done) && works[more] && times[more] + paces[i] <= limit) {
                    return i;
                }
            }
            return NONE;
        }

        /** FEWEST; packings tells the least one of each set that may be left last, packed from its end. */
        int fewestBreaths(int set) {
            rankAll(set);
            packings[0] = nothingPacked();
            for (int left = 1; left <= set; left++) {
                packings[left] = (left & set) == left ? leastPacking(left) : NONE;
            }
            return packings[set] / BREATH;
        }

        private void rankAll(int set) {
            for (int i = 0; i < people; i++) {
                higher[i] = 0;
                for (int j = 0; j < people; j++) {
                    if (isOf(j, set) && ranks[j] > ranks[i]) {
                        higher[i] |= 1 << j;
                    }
                }
            }
        }

        private boolean mayBeFirst(int i, int left) {
            return isOf(i, left) && (higher[i] & left) == 0;
        }

        /** Packed from the end, an order needs as many breaths as from its beginning. */
        private int leastPacking(int left) {
            int least = NONE;
            for (int i = 0; i < people; i++) {
                if (mayBeFirst(i, left)) {
                    int packing = packed(packings[left ^ (1 << i)], i);
                    least = least == NONE ? packing : Math.min(least, packing);
                }
            }
            return least;
        }

        /** Nothing fits behind nothing: the first name begins a breath, as it does behind a full one. */
        private int nothingPacked() {
            return inBreath;
        }

        private int packed(int packing, int i) {
            int breaths = packing / BREATH;
            int held = packing % BREATH;
            if (longs[i] > inBreath) {
                return (breaths + breathsFor(longs[i])) * BREATH + inBreath;
            }
            if (held + longs[i] > inBreath) {
                return (breaths + 1) * BREATH + longs[i];
            }
            return packing + longs[i];
        }

        /** Breaths of two packings, one behind the other: the two that meet may be one. */
        private int joined(int ahead, int behind) {
            int breaths = ahead / BREATH + behind / BREATH;
            return ahead % BREATH + behind % BREATH <= inBreath ? breaths - 1 : breaths;
        }

        /** The order of a COUNCIL, behind fewestBreaths. */
        void orderCouncil(int set, int fewest) {
            ordered = 0;
            int left = set;
            int packing = nothingPacked();
            for (int k = 0; k < MOST_PERSONS && left != 0; k++) {
                int i = nextGreeted(left, packing, fewest);
                if (i == NONE) {
                    return;
                }
                order[k] = i;
                ordered++;
                packing = packed(packing, i);
                left ^= 1 << i;
            }
        }

        private int nextGreeted(int left, int packing, int fewest) {
            for (int i = 0; i < people; i++) {
                if (mayBeFirst(i, left) && joined(packed(packing, i), packings[left ^ (1 << i)]) == fewest) {
                    return i;
                }
            }
            return NONE;
        }
    }

    /** What was HEARD. */
    private static final class Ear {
        private final int[] syllables = new int[MOST_HEARD];
        int size = 0;

        void empty() {
            size = 0;
        }

        void copyFrom(Ear other) {
            System.arraycopy(other.syllables, 0, syllables, 0, MOST_HEARD);
            size = other.size;
        }

        boolean take(int s) {
            if (size >= MOST_HEARD) {
                return false;
            }
            syllables[size] = s;
            size++;
            return true;
        }

        /** The product over SYLLABLES; 0 if not as many are SAID. */
        long likeness(Names names, int i, int misheard) {
            if (names.longOf(i) != size) {
                return 0;
            }
            long product = 1;
            for (int k = 0; k < size && k < MOST_HEARD; k++) {
                if (syllables[k] == NOT_HEARD) {
                    product *= 10;
                } else {
                    product *= syllables[k] == names.saidAt(i, k) ? 10 - misheard : misheard;
                }
            }
            return product;
        }
    }

    /** What is KEPT together. */
    private static final class Memory {
        final Names names = new Names();
        final Ear ear = new Ear();

        void copyFrom(Memory other) {
            names.copyFrom(other.names);
            ear.copyFrom(other.ear);
        }
    }
}
