import java.util.Random;

/** Long runs of calls with numbers by a fixed seed: MadeOf must answer each as PlainMadeOf does. */
public final class RandomRunsTest {
    private static final int RUNS = 1200;
    /** Nothing is promised of an object behind its 512th call, so a run ends where its longest deed might go beyond. */
    private static final int CALLS = 512;
    private static final int LONGEST_DEED = 80;
    /** Deeds that fill some row: of a run that is fond of them it gets full, or nearly so. */
    private static final int[][] FAVOURITES = {{}, {}, {0, 1, 2}, {3, 4, 5}, {7, 8}, {9, 10, 12}, {13}, {3, 4, 5, 6}, {9, 10, 11}};
    private static final String[] WORDS = {"bad", "or", "and", "any", "<", ">", "=", ".", "0", "1", "2", "999", "1000",
        "007", " ", "  ", "x", "A", "anyor", "\t", "\u00ff", "\u0000", "12345678901234567890"};

    private final Random random;
    private final Due due;
    private final MadeOf x = new MadeOf();
    private final PlainMadeOf plain = new PlainMadeOf();
    /** How wide the numbers are spread: a narrow run has many that meet. */
    private final int spread;
    private final int wildness;

    private RandomRunsTest(int seed, Due due) {
        random = new Random(seed);
        this.due = due;
        spread = 2 + random.nextInt(14);
        wildness = random.nextInt(4) == 0 ? 6 : 40;
    }

    public static void main(String[] args) {
        Due due = new Due();
        for (int seed = 1; seed <= RUNS; seed++) {
            due.chapter("seed " + seed);
            new RandomRunsTest(seed, due).run();
        }
        due.close("RandomRunsTest");
    }

    private void run() {
        int[] weights = new int[30];
        for (int i = 0; i < weights.length; i++) {
            weights[i] = 1 + random.nextInt(random.nextInt(5) == 0 ? 12 : 4);
        }
        for (int favourite : FAVOURITES[random.nextInt(FAVOURITES.length)]) {
            weights[favourite] += 60;
        }
        int begin = 10 + random.nextInt(60);
        int checkedBefore = due.checked();
        for (int i = 0; due.checked() - checkedBefore < CALLS - LONGEST_DEED; i++) {
            call(i < begin ? random.nextInt(3) : pick(weights));
            if (random.nextInt(4) == 0) {
                due.is("status()", x.status(), plain.status());
            }
        }
        // Every call has one answer that is held, so these are the calls.
        if (due.checked() - checkedBefore > CALLS) {
            throw new IllegalStateException("a run of " + (due.checked() - checkedBefore) + " calls");
        }
    }

    private int pick(int[] weights) {
        int sum = 0;
        for (int w : weights) {
            sum += w;
        }
        int left = random.nextInt(sum);
        for (int i = 0; i < weights.length; i++) {
            left -= weights[i];
            if (left < 0) {
                return i;
            }
        }
        return 0;
    }

    private boolean wild() {
        return random.nextInt(wildness) == 0;
    }

    private int strange() {
        int[] odd = {-1, -2, 10, 30, 60, 200, 1000, 10001, Integer.MIN_VALUE, Integer.MAX_VALUE, 32, 64};
        return odd[random.nextInt(odd.length)];
    }

    private int of(int what) {
        int size = plain.count(what);
        return wild() || size == 0 ? strange() : random.nextInt(size);
    }

    private int day() {
        return wild() ? strange() : random.nextInt(12) == 0 ? 10000 : random.nextInt(spread * 2);
    }

    private int number() {
        return wild() ? strange() : random.nextInt(10) == 0 ? 999 : random.nextInt(Math.min(3, spread));
    }

    private int below(int bound) {
        return wild() ? strange() : random.nextInt(bound);
    }

    private void call(int which) {
        if (which < 15) {
            tell(which);
        } else {
            ask(which);
        }
    }

    private void tell(int which) {
        int a;
        int b;
        int c;
        int d;
        int e;
        switch (which) {
            case 0: a = below(10); due.is("part(" + a + ")", x.part(a), plain.part(a)); break;
            case 1: case 2:
                a = of(0); b = number(); c = number(); d = number();
                due.is("make " + a + " " + b + " " + c + " " + d, x.make(a, b, c, d), plain.make(a, b, c, d));
                break;
            case 3: case 4: case 5:
                a = of(1); b = of(1); c = below(4); d = day();
                due.is("link " + a + " " + b + " " + c + " " + d, x.link(a, b, c, d), plain.link(a, b, c, d));
                break;
            case 6: a = of(2); b = day(); due.is("cut " + a + " " + b, x.cut(a, b), plain.cut(a, b)); break;
            case 7: case 8:
                a = below(Math.min(30, spread)); b = of(1); c = day(); d = wild() ? day() : c + random.nextInt(9); e = day();
                due.is("hold " + a + " " + b + " " + c + " " + d + " " + e, x.hold(a, b, c, d, e), plain.hold(a, b, c, d, e));
                break;
            case 9: case 10:
                a = of(0); b = of(0); c = day();
                due.is("join " + a + " " + b + " " + c, x.join(a, b, c), plain.join(a, b, c));
                break;
            case 11: a = of(4); due.is("undo " + a, x.undo(a), plain.undo(a)); break;
            case 12:
                a = of(0); b = of(0); c = day();
                due.is("unlike " + a + " " + b + " " + c, x.unlike(a, b, c), plain.unlike(a, b, c));
                break;
            case 13: warn(text()); break;
            default:
                a = of(6); b = day(); c = day();
                due.is("recall " + a + " " + b + " " + c, x.recall(a, b, c), plain.recall(a, b, c));
                break;
        }
    }

    private void ask(int which) {
        int w = of(6);
        int m = of(1);
        int k = day();
        int s = below(Math.min(30, spread));
        int i = random.nextInt(6) - 2;
        int a;
        switch (which) {
            case 15: a = of(2); due.is("counts " + a + " " + k, x.counts(a, k), plain.counts(a, k)); break;
            case 16: a = of(0); due.is("group " + a + " " + k, x.group(a, k), plain.group(a, k)); break;
            case 17: due.is("quarrels " + k, x.quarrels(k), plain.quarrels(k)); break;
            case 18: due.is("bad " + w + " " + m + " " + k, x.bad(w, m, k), plain.bad(w, m, k)); break;
            case 19: due.is("hit " + w + " " + m + " " + k, x.hit(w, m, k), plain.hit(w, m, k)); break;
            case 20: case 21: wholeWay(w, m, k); break;
            case 22: a = day(); due.is("has " + w + " " + s + " " + a + " " + k, x.has(w, s, a, k), plain.has(w, s, a, k)); break;
            case 23: due.is("since " + w + " " + s + " " + k, x.since(w, s, k), plain.since(w, s, k)); break;
            case 24: due.is("gaps " + m + " " + k + " " + i, x.gaps(m, k, i), plain.gaps(m, k, i)); break;
            case 25: due.is("ring " + m + " " + k, x.ring(m, k), plain.ring(m, k)); break;
            case 26: due.is("calls " + k, x.calls(k), plain.calls(k)); break;
            case 27: due.is("told " + w, x.told(w), plain.told(w)); break;
            case 28: a = random.nextInt(10) - 1; due.is("count " + a, x.count(a), plain.count(a)); break;
            default:
                int[] v = {number(), number(), number()};
                a = of(0);
                due.is("find " + a, x.find(a, v[0], v[1], v[2]), plain.find(a, v[0], v[1], v[2]));
                break;
        }
    }

    private void wholeWay(int w, int m, int k) {
        int length = plain.way(w, m, k, -1);
        for (int i = -2; i <= Math.max(length, 0); i++) {
            due.is("way " + w + " " + m + " " + k + " " + i, x.way(w, m, k, i), plain.way(w, m, k, i));
        }
    }

    /** Feeds a text in blocks of twenty bytes; now and then the tape is not read yet, or cut by chance. */
    private void warn(String text) {
        byte[] bytes = java.util.Arrays.copyOf(text.getBytes(java.nio.charset.StandardCharsets.ISO_8859_1), 220);
        int before = plain.count(7);
        for (int at = 0; at < text.length(); at += 20) {
            java.nio.IntBuffer n = java.nio.ByteBuffer.wrap(bytes, at, 20).slice().asIntBuffer();
            due.is("feed", x.feed(n.get(0), n.get(1), n.get(2), n.get(3), n.get(4)),
                plain.feed(n.get(0), n.get(1), n.get(2), n.get(3), n.get(4)));
        }
        int end = wild() ? strange() : Math.min(200, before + text.length());
        due.is("end " + end, x.end(end), plain.end(end));
        if (!wild()) {
            due.is("warning() of " + text, x.warning(), plain.warning());
            due.is("fault() of " + text, x.fault(), plain.fault());
            due.is("count(7)", x.count(7), plain.count(7));
        }
    }

    private String text() {
        StringBuilder text = new StringBuilder(random.nextInt(5) == 0 ? " bad" : "bad");
        blank(text).append(Math.max(0, of(0)));
        int tests = random.nextInt(8) == 0 ? 28 + random.nextInt(5) : 1 + random.nextInt(4);
        for (int t = 0; t < tests; t++) {
            blank(text).append(t == 0 ? "" : random.nextInt(3) == 0 ? "and" : "or");
            test(blank(text), tests > 4);
        }
        blank(text);
        if (random.nextInt(4) == 0) {
            spoil(text);
        }
        text.setLength(Math.min(200, text.length()));
        return text.toString();
    }

    private StringBuilder blank(StringBuilder text) {
        char last = text.charAt(text.length() - 1);
        // Two words must be kept apart; elsewhere a blank is by chance.
        boolean needed = last >= 'a' && last <= 'z' && random.nextInt(30) != 0;
        return text.append(needed || random.nextInt(4) == 0 ? " " : "");
    }

    private void test(StringBuilder text, boolean shortly) {
        String[] signs = {"<", ">", "=", "<=", ">=", "< =", "> ="};
        if (!shortly && random.nextInt(6) == 0) {
            text.append("any");
            return;
        }
        text.append(signs[random.nextInt(shortly ? 3 : signs.length)]).append(Math.min(999, Math.abs(number() % 1001)));
        for (int i = 0; i < 2 && !shortly && random.nextBoolean(); i++) {
            text.append(random.nextInt(5) == 0 ? " . " : ".").append(random.nextInt(3));
        }
    }

    private void spoil(StringBuilder text) {
        int at = random.nextInt(text.length() + 1);
        String word = WORDS[random.nextInt(WORDS.length)];
        switch (random.nextInt(3)) {
            case 0: text.insert(at, word); break;
            case 1: text.replace(at, Math.min(text.length(), at + 1 + random.nextInt(3)), word); break;
            default: text.setLength(at); break;
        }
    }
}
