import java.math.BigInteger;
import java.util.ArrayList;
import java.util.Arrays;
import java.util.List;
import java.util.regex.Matcher;
import java.util.regex.Pattern;

/** The document once more, by the plainest means: texts for names, every order tried. */
final class Model {
    private static final int BAD = Check.BAD, NO = Check.NO, FULL = Check.FULL, NONE = Check.NONE;
    private static final String NUMBER = "([0-9]{1,3})";
    private static final Pattern[] FORMS = {
        Pattern.compile("n" + NUMBER + ",([0-5]{1,6})," + NUMBER + "," + NUMBER + ";"),
        Pattern.compile("l" + NUMBER + "," + NUMBER + ";"),
        Pattern.compile("k" + NUMBER + ";"),
        Pattern.compile("s" + NUMBER + "," + NUMBER + ";"),
        Pattern.compile("b" + NUMBER + "," + NUMBER + ";"),
        Pattern.compile("m" + NUMBER + ";")};

    /** What a text tells. */
    private static final class Told {
        final List<String> names = new ArrayList<>();
        final List<Integer> kinds = new ArrayList<>();
        final List<Integer> paces = new ArrayList<>();
        final List<Integer> ranks = new ArrayList<>();
        final int[] worth = {0, 1, 2, 3, 4, 5};
        final boolean[] shame = new boolean[6];
        final int[] beats = {1, 1, 1, 1, 1, 1};
        int b = 4;
        int v = 3;
        int m = 1;
        int fault = NONE;
    }

    private record Kept(List<String> names, List<Integer> kinds, String heard) {
    }

    String text = "";
    private Told told = read("n0,01,5,0;");
    private List<String> names = new ArrayList<>(told.names);
    private List<Integer> kinds = new ArrayList<>(told.kinds);
    private String heard = "";
    private final List<Kept> kept = new ArrayList<>();

    private static Told read(String text) {
        Told told = new Told();
        int place = 0;
        while (place < text.length()) {
            int end = -1;
            for (int f = 0; f < FORMS.length && end < 0; f++) {
                Matcher item = FORMS[f].matcher(text).region(place, text.length());
                if (item.lookingAt() && take(told, f, item)) {
                    end = item.end();
                }
            }
            if (end < 0) {
                told.fault = place;
                return told;
            }
            place = end;
        }
        return told;
    }

    private static boolean take(Told told, int form, Matcher item) {
        int first = Integer.parseInt(item.group(1));
        int second = item.groupCount() == 2 ? Integer.parseInt(item.group(2)) : 0;
        if (form == 0) {
            int x = Integer.parseInt(item.group(3));
            int r = Integer.parseInt(item.group(4));
            if (first > 3 || x > 99 || r > 9 || told.names.size() == 8) {
                return false;
            }
            told.kinds.add(first);
            told.names.add(item.group(2));
            told.paces.add(x);
            told.ranks.add(r);
        } else if (form == 1) {
            if (first > 5 || second > 5) {
                return false;
            }
            told.worth[first] = second;
        } else if (form == 2) {
            if (first > 5) {
                return false;
            }
            told.shame[first] = true;
        } else if (form == 3) {
            if (first > 5 || second < 1 || second > 9) {
                return false;
            }
            told.beats[first] = second;
        } else if (form == 4) {
            if (first < 1 || first > 12 || second > 20) {
                return false;
            }
            told.b = first;
            told.v = second;
        } else {
            if (first > 9) {
                return false;
            }
            told.m = first;
        }
        return true;
    }

    int people() {
        return names.size();
    }

    private boolean noPerson(int i) {
        return i < 0 || i >= people();
    }

    private boolean noSet(int set) {
        return set <= 0 || set >= 1 << people();
    }

    private static String said(String name, int kind) {
        return switch (kind) {
            case 0 -> name;
            case 1 -> name.length() > 1 ? name.substring(0, name.length() - 1) : name;
            default -> name + name;
        };
    }

    private String saidOf(int i) {
        return said(names.get(i), kinds.get(i));
    }

    private int beatsOf(int i) {
        int sum = 0;
        for (char c : saidOf(i).toCharArray()) {
            sum += told.beats[c - '0'] * (kinds.get(i) == 3 ? 2 : 1);
        }
        return sum;
    }

    private List<Integer> members(int set) {
        List<Integer> list = new ArrayList<>();
        for (int i = 0; i < people(); i++) {
            if ((set >> i & 1) == 1) {
                list.add(i);
            }
        }
        return list;
    }

    int write(int n, long v) {
        if (n < 1 || n > 8) {
            return BAD;
        }
        if (text.length() + n > 400) {
            return FULL;
        }
        for (int k = n - 1; k >= 0; k--) {
            text += (char) (v >> 8 * k & 255);
        }
        return text.length();
    }

    int wipe() {
        int was = text.length();
        text = "";
        return was;
    }

    int fault() {
        return read(text).fault;
    }

    int lay() {
        Told next = read(text);
        if (next.fault != NONE || next.names.isEmpty()) {
            return NO;
        }
        told = next;
        names = new ArrayList<>(told.names);
        kinds = new ArrayList<>(told.kinds);
        heard = "";
        kept.clear();
        return people();
    }

    int person(int i, int what) {
        if (noPerson(i) || what < 0 || what > 5) {
            return BAD;
        }
        int[] all = {kinds.get(i), told.paces.get(i), told.ranks.get(i), names.get(i).length(), saidOf(i).length(), beatsOf(i)};
        return all[what];
    }

    private static int at(String s, int k) {
        return k < s.length() ? s.charAt(k) - '0' : NONE;
    }

    int saidAt(int i, int k) {
        return noPerson(i) || k < 0 || k > 19 ? BAD : at(saidOf(i), k);
    }

    /** The name behind a deed; null if it would be too long. */
    private String done(String name, int d) {
        if (told.shame[d]) {
            return name.length() >= 2 ? name.substring(0, name.length() - 1) : name;
        }
        return name.length() == 10 ? null : name + told.worth[d];
    }

    int deed(int i, int d) {
        if (noPerson(i) || d < 0 || d > 5) {
            return BAD;
        }
        String next = done(names.get(i), d);
        if (next == null) {
            return FULL;
        }
        names.set(i, next);
        return next.length();
    }

    int kind(int i, int k) {
        return noPerson(i) || k < 0 || k > 3 ? BAD : kinds.set(i, k);
    }

    /** Syllable by syllable: the beats at the end of each name. */
    private int[] ends(List<Integer> order) {
        int[] ends = new int[order.size()];
        int beats = 0;
        int inBreath = 0;
        for (int n = 0; n < ends.length; n++) {
            int i = order.get(n);
            for (char c : saidOf(i).toCharArray()) {
                if (inBreath == told.b) {
                    beats += told.v;
                    inBreath = 0;
                }
                inBreath++;
                beats += told.beats[c - '0'] * (kinds.get(i) == 3 ? 2 : 1);
            }
            ends[n] = beats;
        }
        return ends;
    }

    int cry(int set) {
        if (noSet(set)) {
            return BAD;
        }
        int[] ends = ends(members(set));
        return ends[ends.length - 1];
    }

    /** All are tried in order, so the first of the best sets found for a set is its first order. */
    private void tryWarnings(List<Integer> order, int l, List<Integer> best) {
        int[] ends = ends(order);
        for (int n = 0; n < ends.length; n++) {
            if (ends[n] + told.paces.get(order.get(n)) > l) {
                return;
            }
        }
        boolean more = order.size() > best.size();
        if (more || order.size() == best.size() && bits(order) < bits(best)) {
            best.clear();
            best.addAll(order);
        }
        for (int i = 0; i < people(); i++) {
            if (!order.contains(i)) {
                order.add(i);
                tryWarnings(order, l, best);
                order.remove(order.size() - 1);
            }
        }
    }

    private static int bits(List<Integer> order) {
        int set = 0;
        for (int i : order) {
            set |= 1 << i;
        }
        return set;
    }

    private List<Integer> warning(int l) {
        List<Integer> best = new ArrayList<>();
        tryWarnings(new ArrayList<>(), l, best);
        return best;
    }

    int warn(int l, int what) {
        if (l < 0 || l > 999 || what < 0 || what > 1) {
            return BAD;
        }
        return what == 0 ? warning(l).size() : bits(warning(l));
    }

    int called(int l, int i) {
        if (l < 0 || l > 999 || i < 0 || i > 7) {
            return BAD;
        }
        List<Integer> best = warning(l);
        return i < best.size() ? best.get(i) : NONE;
    }

    private int breaths(List<Integer> order) {
        int breaths = 0;
        int room = 0;
        for (int i : order) {
            int size = saidOf(i).length();
            if (size <= room) {
                room -= size;
            } else {
                breaths++;
                int in = Math.min(size, told.b);
                room = told.b - in;
                for (int left = size - in; left > 0; left -= told.b) {
                    breaths++;
                    room = 0;
                }
            }
        }
        return breaths;
    }

    private void tryCouncils(List<Integer> order, List<Integer> set, List<Integer> best) {
        if (order.size() == set.size()) {
            if (best.isEmpty() || breaths(order) < breaths(best)) {
                best.clear();
                best.addAll(order);
            }
            return;
        }
        int highest = 0;
        for (int i : set) {
            highest = order.contains(i) ? highest : Math.max(highest, told.ranks.get(i));
        }
        for (int i : set) {
            if (!order.contains(i) && told.ranks.get(i) == highest) {
                order.add(i);
                tryCouncils(order, set, best);
                order.remove(order.size() - 1);
            }
        }
    }

    int greet(int set, int i) {
        if (noSet(set) || i < -1 || i > 7) {
            return BAD;
        }
        List<Integer> best = new ArrayList<>();
        tryCouncils(new ArrayList<>(), members(set), best);
        return i == -1 ? breaths(best) : i < best.size() ? best.get(i) : NONE;
    }

    private static int shortOf(List<String> saids, List<Integer> kinds, int i, List<Integer> set) {
        String own = saids.get(i);
        for (int k = kinds.get(i) == 3 ? own.length() : 1; k <= own.length(); k++) {
            int answer = 0;
            for (int j : set) {
                answer += saids.get(j).startsWith(own.substring(0, k)) ? 1 : 0;
            }
            if (answer == 1) {
                return k;
            }
        }
        return NONE;
    }

    private static List<String> saids(List<String> names, List<Integer> kinds) {
        List<String> saids = new ArrayList<>();
        for (int i = 0; i < names.size(); i++) {
            saids.add(said(names.get(i), kinds.get(i)));
        }
        return saids;
    }

    int shortCall(int i, int set) {
        if (noSet(set) || noPerson(i) || !members(set).contains(i)) {
            return BAD;
        }
        return shortOf(saids(names, kinds), kinds, i, members(set));
    }

    private int sum(List<String> names, int set) {
        int sum = 0;
        for (int i : members(set)) {
            int own = shortOf(saids(names, kinds), kinds, i, members(set));
            if (own == NONE) {
                return NONE;
            }
            sum += own;
        }
        return sum;
    }

    int allShort(int set) {
        return noSet(set) ? BAD : sum(names, set);
    }

    int apart(int i, int set, int what) {
        if (noSet(set) || noPerson(i) || !members(set).contains(i) || what < 0 || what > 1) {
            return BAD;
        }
        if (names.get(i).length() == 10) {
            return FULL;
        }
        int which = NONE;
        int least = Integer.MAX_VALUE;
        for (int s = 5; s >= 0; s--) {
            List<String> longer = new ArrayList<>(names);
            longer.set(i, names.get(i) + s);
            int sum = sum(longer, set);
            if (sum != NONE && sum <= least) {
                which = s;
                least = sum;
            }
        }
        return what == 0 || which == NONE ? which : least;
    }

    int hear(int s) {
        if (!Arrays.asList(0, 1, 2, 3, 4, 5, 9).contains(s)) {
            return BAD;
        }
        if (heard.length() == 12) {
            return FULL;
        }
        heard += s;
        return heard.length();
    }

    int forget() {
        int was = heard.length();
        heard = "";
        return was;
    }

    private BigInteger weight(int i) {
        String own = saidOf(i);
        if (own.length() != heard.length()) {
            return BigInteger.ZERO;
        }
        BigInteger weight = BigInteger.valueOf(told.ranks.get(i) + 1);
        for (int k = 0; k < own.length(); k++) {
            int factor = heard.charAt(k) == '9' ? 10 : heard.charAt(k) == own.charAt(k) ? 10 - told.m : told.m;
            weight = weight.multiply(BigInteger.valueOf(factor));
        }
        return weight;
    }

    long odds(int i, int part) {
        if (noPerson(i) || part < 0 || part > 1) {
            return BAD;
        }
        BigInteger all = BigInteger.ZERO;
        for (int j = 0; j < people(); j++) {
            all = all.add(weight(j));
        }
        if (all.signum() == 0) {
            return NONE;
        }
        return (part == 0 ? weight(i) : all).divide(all.gcd(weight(i))).longValueExact();
    }

    int meant() {
        int who = NONE;
        for (int i = people() - 1; i >= 0; i--) {
            if (weight(i).signum() > 0 && (who == NONE || weight(i).compareTo(weight(who)) >= 0)) {
                who = i;
            }
        }
        return who;
    }

    private List<String> lived(int z, int y) {
        List<String> then = new ArrayList<>(names);
        for (int t = 0; t < y; t++) {
            for (int i = 0; i < people(); i++) {
                BigInteger x = BigInteger.valueOf(7919L * z + 6151L * i + 3571L * t + 1);
                int d = x.pow(2).mod(BigInteger.valueOf(65521)).intValue() % 12;
                String next = d < 6 ? done(then.get(i), d) : null;
                if (next != null) {
                    then.set(i, next);
                }
            }
        }
        return then;
    }

    int years(int z, int y, int what) {
        if (z < 0 || z > 9999 || y < 0 || y > 60 || what < 0 || what > 2) {
            return BAD;
        }
        List<String> were = names;
        names = lived(z, y);
        int all = (1 << people()) - 1;
        int answer = 0;
        for (int i = 0; i < people(); i++) {
            if (what == 1) {
                answer = Math.max(answer, saidOf(i).length());
            } else if (what == 2) {
                answer += shortCall(i, all) == NONE ? 0 : 1;
            }
        }
        answer = what == 0 ? cry(all) : answer;
        names = were;
        return answer;
    }

    int then(int z, int y, int i, int k) {
        if (z < 0 || z > 9999 || y < 0 || y > 60 || noPerson(i) || k < 0 || k > 9) {
            return BAD;
        }
        return at(lived(z, y).get(i), k);
    }

    int keep() {
        if (kept.size() == 2) {
            return FULL;
        }
        kept.add(new Kept(new ArrayList<>(names), new ArrayList<>(kinds), heard));
        return kept.size();
    }

    int back() {
        if (kept.isEmpty()) {
            return NO;
        }
        Kept last = kept.remove(kept.size() - 1);
        names = last.names;
        kinds = last.kinds;
        heard = last.heard;
        return kept.size();
    }

    int count(int what) {
        if (what < 0 || what > 6) {
            return BAD;
        }
        int[] all = {people(), heard.length(), text.length(), kept.size(), told.b, told.v, told.m};
        return all[what];
    }
}
