import java.util.Random;

/** Random runs of calls, each answer compared with the plain model's. */
public final class ModelTest {
    private static final int RUNS = 250;
    private static final int CALLS = 500;
    private static final int[] ODD = {-1, -2, 8, 9, 10, 12, 20, 31, 32, 61, 256, 1000, Integer.MIN_VALUE, Integer.MAX_VALUE};
    private final Random random;
    private final DeedNames x = new DeedNames();
    private final Model model = new Model();
    private final int mostPersons;
    private int calls = 0;

    private ModelTest(int seed) {
        random = new Random(seed);
        // every order is tried by the model, so full hills are few
        mostPersons = seed % 25 == 0 ? 8 : 1 + seed % 6;
    }

    public static void main(String[] args) {
        for (int seed = 1; seed <= RUNS; seed++) {
            new ModelTest(seed).run(seed);
        }
        Check.end();
    }

    private void run(int seed) {
        while (calls < CALLS) {
            if (calls % 100 == 0 && calls + 60 < CALLS) {
                writeText();
            }
            call(seed, random.nextInt(23), random.nextInt(12) == 0);
        }
    }

    private int upTo(int most) {
        return random.nextInt(most + 1);
    }

    private int number(int most, boolean odd) {
        return odd && random.nextBoolean() ? ODD[random.nextInt(ODD.length)] : upTo(most);
    }

    private String name(int most) {
        int size = 1 + upTo(most - 1);
        // few sounds, so that names begin alike
        int sounds = random.nextBoolean() ? 2 : 6;
        String name = "";
        for (int k = 0; k < size; k++) {
            name += random.nextInt(sounds);
        }
        return name;
    }

    private String item(int form) {
        return switch (form) {
            case 0 -> "l" + upTo(5) + "," + upTo(5) + ";";
            case 1 -> "k" + upTo(5) + ";";
            case 2 -> "s" + upTo(5) + "," + (1 + upTo(8)) + ";";
            case 3 -> "b" + (1 + upTo(11)) + "," + upTo(20) + ";";
            case 4 -> "m" + upTo(9) + ";";
            default -> "n" + upTo(3) + "," + name(6) + "," + (random.nextBoolean() ? upTo(99) : upTo(9)) + ","
                + (random.nextBoolean() ? upTo(9) : upTo(1)) + ";";
        };
    }

    private void writeText() {
        StringBuilder text = new StringBuilder();
        for (int n = 0; n < mostPersons; n++) {
            text.append(item(5));
            if (random.nextInt(2) == 0) {
                text.append(item(upTo(4)));
            }
        }
        if (random.nextInt(4) == 0) {
            text.append(item(upTo(5)));
        }
        if (random.nextInt(3) == 0) {
            spoil(text);
        }
        due("wipe", x.wipe(), model.wipe());
        for (int at = 0; at < text.length(); at += 8) {
            int n = Math.min(8, text.length() - at);
            long v = random.nextLong();
            for (int k = 0; k < n; k++) {
                v = v << 8 | text.charAt(at + k);
            }
            due("write", x.write(n, v), model.write(n, v));
        }
        due("fault of " + text, x.fault(), model.fault());
        // the model tries every order, so a text is laid only if it tells few persons
        if (model.text.chars().filter(c -> c == 'n').count() <= mostPersons + 1) {
            due("lay of " + text, x.lay(), model.lay());
        }
    }

    private void spoil(StringBuilder text) {
        String signs = "0123456789,,;;nlksbm \u00ff";
        int place = random.nextInt(text.length());
        char sign = signs.charAt(random.nextInt(signs.length()));
        switch (upTo(2)) {
            case 0 -> text.insert(place, sign);
            case 1 -> text.setCharAt(place, sign);
            default -> text.deleteCharAt(place);
        }
    }

    private void due(String call, long got, long want) {
        calls++;
        Check.due(call, got, want);
    }

    private void call(int seed, int which, boolean odd) {
        int n = model.people();
        int i = number(n - 1, odd);
        int set = number((1 << n) - 1, odd);
        int own = random.nextInt(4) == 0 || i < 0 || i > 7 ? set : set | 1 << i;
        int two = number(1, odd);
        int three = number(2, odd);
        int four = number(3, odd);
        int eight = number(7, odd);
        int l = number(random.nextBoolean() ? 999 : 120, odd);
        int six = number(5, odd);
        int z = number(9999, odd);
        int y = number(60, odd);
        int k = number(19, odd);
        String at = "seed " + seed + ", call " + calls + ": ";
        switch (which) {
            case 0 -> due(at + "person " + i + ", " + six, x.person(i, six), model.person(i, six));
            case 1 -> due(at + "said " + i + ", " + k, x.said(i, k), model.saidAt(i, k));
            case 2, 3, 4 -> due(at + "deed " + i + ", " + six, x.deed(i, six), model.deed(i, six));
            case 5 -> due(at + "kind " + i + ", " + four, x.kind(i, four), model.kind(i, four));
            case 6 -> due(at + "cry " + set, x.cry(set), model.cry(set));
            case 7 -> due(at + "warn " + l + ", " + two, x.warn(l, two), model.warn(l, two));
            case 8 -> due(at + "called " + l + ", " + eight, x.called(l, eight), model.called(l, eight));
            case 9, 10 -> due(at + "greet " + set + ", " + (eight - 1), x.greet(set, eight - 1), model.greet(set, eight - 1));
            case 11 -> due(at + "shortCall " + i + ", " + own, x.shortCall(i, own), model.shortCall(i, own));
            case 12 -> due(at + "allShort " + set, x.allShort(set), model.allShort(set));
            case 13 -> due(at + "apart " + i + ", " + own + ", " + two, x.apart(i, own, two), model.apart(i, own, two));
            case 14, 15 -> hearLikely(at, i, odd);
            case 16 -> due(at + "odds " + i + ", " + two, x.odds(i, two), model.odds(i, two));
            case 17 -> due(at + "meant", x.meant(), model.meant());
            case 18 -> due(at + "years " + z + ", " + y + ", " + three, x.years(z, y, three), model.years(z, y, three));
            case 19 -> due(at + "then " + z + ", " + y + ", " + i + ", " + k / 2, x.then(z, y, i, k / 2), model.then(z, y, i, k / 2));
            case 20 -> due(at + "keep", x.keep(), model.keep());
            case 21 -> due(at + "back", x.back(), model.back());
            default -> due(at + "count " + eight, x.count(eight), model.count(eight));
        }
    }

    /** Hears as many as are said of somebody, some of them as they are, and asks at once who is meant. */
    private void hearLikely(String at, int i, boolean odd) {
        if (odd || i < 0 || i >= model.people()) {
            int s = number(9, odd);
            due(at + "hear " + s, x.hear(s), model.hear(s));
            return;
        }
        due(at + "forget", x.forget(), model.forget());
        int size = Math.min(model.person(i, 4), 12);
        for (int k = 0; k < size; k++) {
            int s = random.nextInt(3) == 0 ? 9 : random.nextInt(4) == 0 ? upTo(5) : model.saidAt(i, k);
            due(at + "hear " + s, x.hear(s), model.hear(s));
        }
        due(at + "meant", x.meant(), model.meant());
        due(at + "odds of " + i, x.odds(i, 0), model.odds(i, 0));
        due(at + "odds of " + i, x.odds(i, 1), model.odds(i, 1));
    }
}
