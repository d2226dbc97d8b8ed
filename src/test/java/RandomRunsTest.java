import java.util.Random;

/** Runs of calls by draws (the same each time), all promises mixed, compared with PlainPost. */
public final class RandomRunsTest {
    private static final int RUNS = 400, CALLS = 512;
    private static final int[] EDGES = {Integer.MIN_VALUE, -1000001, -2, -1, 0, 1, 2, 3, 5, 6, 7, 8, 9, 10, 15, 16, 17, 20, 23,
        24, 25, 39, 40, 41, 59, 60, 61, 63, 64, 65, 255, 256, 300, 301, 999999, 1000000, Integer.MAX_VALUE};

    private final Random random;
    private final Check check;
    private final ClockPost real = new ClockPost();
    private final PlainPost plain = new PlainPost();
    private int calls;

    private RandomRunsTest(long seed, Check check) {
        this.random = new Random(seed);
        this.check = check;
    }

    public static void main(String[] args) {
        Check check = new Check();
        for (int run = 0; run < RUNS && check.stillRight(); run++) {
            new RandomRunsTest(run, check).run(run);
        }
        check.end();
    }

    private void run(int run) {
        boolean wild = run % 4 == 3;
        boolean old = run % 4 == 2;
        if (old) {
            growOld();
        }
        while (calls < CALLS && check.stillRight()) {
            int call = random.nextInt(40);
            if (call >= 36 && !old) {
                readHouse(wild);
            } else if (call >= 36) {
                due("days", real.days(24), plain.days(24));
            } else if (call == 35) {
                layBurdens();
            } else if (call == 34) {
                compareState();
            } else {
                compare("run " + run, call, wild);
            }
        }
    }

    /** A HOUSE that is near the last DAY, the most SUM, or the most AGE, and is not read anew. */
    private void growOld() {
        String text = text(1 + random.nextInt(6));
        Check.feed(real, text);
        text.chars().forEach(plain::feed);
        due("house of " + text, real.house(), plain.house());
        for (int left = random.nextInt(42); left > 0; left--) {
            due("days", real.days(24), plain.days(24));
        }
    }

    private void due(String call, int got, int want) {
        calls++;
        check.due(call, got, want);
    }

    /** A number near the range that is told; seldom far from it. */
    private int near(int least, int most, boolean wild) {
        int draw = random.nextInt(wild ? 4 : 60);
        if (draw == 0) {
            return EDGES[random.nextInt(EDGES.length)];
        }
        if (draw == 1) {
            return random.nextBoolean() ? least - 1 : most + 1;
        }
        return least + random.nextInt(most - least + 1);
    }

    private void readHouse(boolean wild) {
        if (random.nextInt(4) != 0 && plain.count(1) > 0) {
            return;
        }
        String text = text(random.nextInt(wild ? 8 : 7));
        if (random.nextInt(wild ? 2 : 8) == 0 && !text.isEmpty()) {
            text = spoilt(text);
        }
        for (int i = 0; i < text.length(); i++) {
            due("feed " + text.charAt(i), real.feed(text.charAt(i)), plain.feed(text.charAt(i)));
        }
        due("house of " + text, real.house(), plain.house());
        due("fault", real.fault(), plain.fault());
    }

    private String text(int letters) {
        StringBuilder text = new StringBuilder("c" + (1 + random.nextInt(30)) + ";");
        for (int i = 0; i < letters; i++) {
            text.append("bdsne".charAt(random.nextInt(5))).append(random.nextInt(10));
            text.append(',').append(1 + random.nextInt(9)).append(',').append(random.nextInt(10)).append(';');
        }
        return text.toString();
    }

    private String spoilt(String text) {
        int at = random.nextInt(text.length() + 1);
        char sign = "cbdsnex,;0123456789 A\u00ff".charAt(random.nextInt(22));
        switch (random.nextInt(3)) {
            case 0: return text.substring(0, at);
            case 1: return text.substring(0, at) + sign + text.substring(at);
            default: return text.substring(0, at) + sign + text.substring(Math.min(text.length(), at + 1));
        }
    }

    /** A ROW that tells the BURDENS as they come, or as they came with one answered, feared otherwise. */
    private void layBurdens() {
        int row = random.nextInt(8);
        int n = 1 + random.nextInt(16);
        int letter = random.nextInt(6);
        due("row", real.row(row, 2, n), plain.row(row, 2, n));
        boolean changed = random.nextBoolean()
                ? plain.answer(letter) >= 0 : plain.dread(letter, random.nextInt(10)) >= 0;
        int[] burdens = new int[n];
        for (int d = 0; d < n; d++) {
            burdens[d] = plain.burden(d);
        }
        if (changed) {
            plain.undo();
            // the ring of ACTS forgot one if it was full: both are brought to the same with an IMAGE
            due("image", real.image(1), plain.image(1));
            due("restore", real.restore(1), plain.restore(1));
        }
        for (int d = 0; d < n; d++) {
            due("set", real.set(row, d, burdens[d]), plain.set(row, d, burdens[d]));
        }
        due("stealth", real.stealth(row, 0, n), plain.stealth(row, 0, n));
        due("fits", real.fits(letter, row, 0, n, 0), plain.fits(letter, row, 0, n, 0));
    }

    private void compareState() {
        for (int what = 0; what < 10; what++) {
            due("count " + what, real.count(what), plain.count(what));
        }
        for (int i = 0; i < 36; i++) {
            due("letter " + i / 6 + ", " + i % 6, real.letter(i / 6, i % 6), plain.letter(i / 6, i % 6));
        }
        due("status", real.status(), plain.status());
    }

    private void compare(String name, int call, boolean wild) {
        int a = near(0, 7, wild);
        int i = near(0, 12, wild);
        int letter = near(0, 5, wild);
        int what = near(0, 1, wild);
        String told = name + ", call " + calls + " of number " + call;
        if (call < 8) {
            compareRows(told, call, a, i, wild);
        } else if (call < 16) {
            compareActs(told, call, letter, wild);
        } else if (call < 26) {
            compareForetold(told, call, what, wild);
        } else {
            compareAsked(told, call, letter, what, wild);
        }
    }

    private void compareRows(String told, int call, int a, int i, boolean wild) {
        int b = near(0, 7, wild);
        int n = near(0, 40, wild);
        int v = random.nextBoolean() ? random.nextInt() : random.nextInt(40);
        int lane = near(0, 2, wild);
        int few = near(1, 4, wild);
        int letter = near(0, 5, wild);
        int what = near(0, 2, wild);
        switch (call) {
            case 0: case 1: due(told, real.row(a, lane, n), plain.row(a, lane, n)); break;
            case 2: due(told, real.set(a, i, v), plain.set(a, i, v)); break;
            case 3: due(told, real.copy(a, i, b, lane, few), plain.copy(a, i, b, lane, few)); break;
            case 4: due(told, real.copy(a, lane, a, i, n), plain.copy(a, lane, a, i, n)); break;
            case 5: due(told, real.drop(a), plain.drop(a)); break;
            case 6: due(told, real.fits(letter, a, i, few, what), plain.fits(letter, a, i, few, what)); break;
            default: due(told, real.stealth(a, i, few), plain.stealth(a, i, few)); break;
        }
    }

    private void compareActs(String told, int call, int letter, boolean wild) {
        int v = near(0, 9, wild);
        int n = near(1, random.nextInt(8) == 0 ? 24 : 4, wild);
        int k = near(0, 1, wild);
        switch (call) {
            case 8: case 9: due(told, real.days(n), plain.days(n)); break;
            case 10: due(told, real.answer(letter), plain.answer(letter)); break;
            case 11: due(told, real.post(letter), plain.post(letter)); break;
            case 12: due(told, real.dread(letter, v), plain.dread(letter, v)); break;
            case 13: due(told, real.undo(), plain.undo()); break;
            case 14: due(told, real.image(k), plain.image(k)); break;
            default: due(told, real.restore(k), plain.restore(k)); break;
        }
    }

    private void compareForetold(String told, int call, int what, boolean wild) {
        int d = near(0, 60, wild);
        int q = random.nextBoolean() ? near(0, 40, wild) : near(0, 300, wild);
        int c = near(0, 10, wild);
        int seed = near(1, 999999, wild);
        switch (call) {
            case 16: due(told, real.burden(d), plain.burden(d)); break;
            case 17: due(told, real.sum(d), plain.sum(d)); break;
            case 18: due(told, real.behind(d), plain.behind(d)); break;
            case 19: due(told, real.falls(what), plain.falls(what)); break;
            case 20: case 21: compareOrder(told, wild); break;
            case 22: due(told, real.hold(d, what), plain.hold(d, what)); break;
            case 23: due(told, real.ease(d, q, what), plain.ease(d, q, what)); break;
            case 24: due(told, real.lost(q, c, what), plain.lost(q, c, what)); break;
            default: due(told, real.drawn(d, seed, what), plain.drawn(d, seed, what)); break;
        }
    }

    private void compareOrder(String told, boolean wild) {
        int letters = near(0, 63, wild);
        if (random.nextInt(4) != 0) {
            letters &= plain.count(3);
        }
        int k = near(-1, 5, wild);
        due(told, real.order(letters, k), plain.order(letters, k));
        due(told, real.order(letters, -1), plain.order(letters, -1));
    }

    private void compareAsked(String told, int call, int letter, int what, boolean wild) {
        int kind = near(0, 5, wild);
        int i = near(0, 7, wild);
        int counted = near(0, 9, wild);
        int toldOf = near(0, 5, wild);
        int sign = near(0, 255, wild);
        switch (call) {
            case 26: due(told, real.kind(letter), plain.kind(letter)); break;
            case 27: due(told, real.as(letter, kind), plain.as(letter, kind)); break;
            case 28: due(told, real.ask(letter, what), plain.ask(letter, what)); break;
            case 29: due(told, real.trace(i), plain.trace(i)); break;
            case 30: due(told, real.count(counted), plain.count(counted)); break;
            case 31: due(told, real.status(), plain.status()); break;
            case 32: due(told, real.letter(letter, toldOf), plain.letter(letter, toldOf)); break;
            default: compareFeed(told, sign, wild); break;
        }
    }

    /** Seldom, for what lies on the tape spoils the next HOUSE. */
    private void compareFeed(String told, int sign, boolean wild) {
        if (wild && random.nextInt(6) == 0) {
            due(told, real.feed(sign), plain.feed(sign));
        }
    }
}
