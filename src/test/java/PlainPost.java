import java.math.BigInteger;
import java.util.ArrayDeque;
import java.util.ArrayList;
import java.util.Arrays;
import java.util.Comparator;
import java.util.Deque;
import java.util.List;
import java.util.TreeMap;
import java.util.stream.Collectors;
import java.util.stream.IntStream;

/** The document written a second time, in another way and with the whole library: what RandomRunsTest compares with. */
final class PlainPost {
    private static final int NONE = -1000000, BAD = -1000001, STATE = -1000002, FULL = -1000003;

    private final TreeMap<Integer, Integer> lanes = new TreeMap<>();
    private final TreeMap<Integer, List<Integer>> rows = new TreeMap<>();
    private final StringBuilder tape = new StringBuilder();
    private final Deque<Plain> acts = new ArrayDeque<>();
    private final Plain[] images = new Plain[2];
    private final List<Integer> traced = new ArrayList<>();
    private Plain now;
    private int latestFault;
    private int finding;

    /** One kind of LETTER a class, so that Java itself chooses the BODIES. */
    private abstract static class Sort {
        int number, fear, thick, holds, age;
        boolean there = true;
        List<Integer> trace;

        abstract int kind();

        abstract int weighs(int others);

        abstract Sort empty();

        Sort twin() {
            return fill(empty());
        }

        Sort fill(Sort s) {
            s.number = number;
            s.fear = fear;
            s.thick = thick;
            s.holds = holds;
            s.age = age;
            s.there = there;
            return s;
        }

        int size() {
            trace.add(10);
            return thick;
        }

        int mark() {
            trace.add(20);
            return number;
        }
    }

    private static class Bill extends Sort {
        int kind() {
            return 1;
        }

        Sort empty() {
            return new Bill();
        }

        int weighs(int others) {
            return fear + age;
        }

        @Override int size() {
            trace.add(11);
            int lent = super.size();
            return lent + mark();
        }

        @Override int mark() {
            trace.add(21);
            return super.mark() + age;
        }
    }

    private static final class Dun extends Bill {
        @Override int kind() {
            return 2;
        }

        @Override Sort empty() {
            return new Dun();
        }

        @Override int weighs(int others) {
            return super.weighs(others) * 2;
        }

        @Override int size() {
            trace.add(12);
            return 0 - super.size();
        }

        @Override int mark() {
            trace.add(24);
            return 2 * super.mark();
        }
    }

    private static final class Stale extends Bill {
        @Override int kind() {
            return 3;
        }

        @Override Sort empty() {
            return new Stale();
        }

        @Override int weighs(int others) {
            return age >= 9 ? 0 : super.weighs(others);
        }

        @Override int mark() {
            trace.add(22);
            return super.mark() - 1000;
        }
    }

    private static class Note extends Sort {
        int kind() {
            return 4;
        }

        Sort empty() {
            return new Note();
        }

        int weighs(int others) {
            return fear;
        }

        @Override int size() {
            trace.add(13);
            return super.size() - 100;
        }

        @Override int mark() {
            trace.add(23);
            int lent = super.mark();
            return lent - size();
        }
    }

    private static final class Black extends Note {
        @Override int kind() {
            return 5;
        }

        @Override Sort empty() {
            return new Black();
        }

        @Override int weighs(int others) {
            return fear + others;
        }

        @Override int size() {
            trace.add(14);
            return 2 * super.size();
        }
    }

    private static Sort sortOf(int kind) {
        return List.<Sort>of(new Bill(), new Dun(), new Stale(), new Note(), new Black()).get(kind - 1);
    }

    private static final class Plain {
        List<Sort> all = new ArrayList<>();
        int gap, day, sum, sorrow;

        Plain twin() {
            Plain p = new Plain();
            for (Sort s : all) {
                p.all.add(s.twin());
            }
            p.gap = gap;
            p.day = day;
            p.sum = sum;
            p.sorrow = sorrow;
            return p;
        }

        Plain without(int bits) {
            Plain p = twin();
            p.all.stream().filter(s -> (bits >> s.number & 1) == 1).forEach(s -> s.there = false);
            return p;
        }

        List<Sort> there() {
            return all.stream().filter(s -> s.there).collect(Collectors.toList());
        }

        int bits() {
            return there().stream().mapToInt(s -> 1 << s.number).sum();
        }

        int weighs(Sort s) {
            return s.there ? s.weighs(there().size() - 1) : 0;
        }

        int burden() {
            return all.stream().mapToInt(this::weighs).sum();
        }

        int thickness() {
            return there().stream().mapToInt(s -> s.thick).sum();
        }

        List<Integer> passDay() {
            sum = Math.min(9999, sum + burden());
            there().forEach(s -> s.age = Math.min(99, s.age + 1));
            day++;
            List<Integer> fallen = new ArrayList<>();
            Comparator<Sort> firstToFall = Comparator.<Sort>comparingInt(s -> -s.thick)
                    .thenComparingInt(s -> -s.age).thenComparingInt(s -> s.number);
            while (thickness() > gap) {
                Sort s = there().stream().min(firstToFall).orElseThrow();
                s.there = false;
                sorrow = Math.min(9999, sorrow + s.holds);
                fallen.add(s.number);
            }
            return fallen;
        }

        Plain later(int d) {
            Plain p = twin();
            for (int i = 0; i < d; i++) {
                p.passDay();
            }
            return p;
        }

        List<Integer> burdens(int n) {
            return IntStream.range(0, n).map(d -> later(d).burden()).boxed().collect(Collectors.toList());
        }

        void answer(int i) {
            if (all.get(i).there) {
                all.get(i).there = false;
                sorrow = Math.min(9999, sorrow + all.get(i).holds / 2);
            }
        }

        void post(int i) {
            if (!all.get(i).there) {
                all.get(i).there = true;
                all.get(i).age = 0;
            }
        }
    }

    private int found(int number) {
        finding = number;
        return -1000010 - number;
    }

    private int fine(int told) {
        finding = 0;
        return told;
    }

    private static boolean in(int v, int least, int most) {
        return least <= v && v <= most;
    }

    int row(int row, int lane, int n) {
        if (!in(row, 0, 7) || !in(lane, 0, 2) || n > 40) {
            return BAD;
        }
        if (n < 0) {
            return found(4);
        }
        lanes.put(row, lane);
        rows.put(row, new ArrayList<>(java.util.Collections.nCopies(n, 0)));
        return fine(n);
    }

    int set(int row, int i, int v) {
        if (!in(row, 0, 7)) {
            return BAD;
        }
        if (!rows.containsKey(row)) {
            return found(1);
        }
        if (!in(i, 0, rows.get(row).size() - 1)) {
            return found(2);
        }
        int bits = 8 << lanes.get(row);
        int cut = BigInteger.valueOf(v).and(BigInteger.ONE.shiftLeft(bits).subtract(BigInteger.ONE)).intValue();
        if (bits < 32 && cut >= 1 << bits - 1) {
            cut -= 1 << bits;
        }
        rows.get(row).set(i, cut);
        return fine(cut);
    }

    private boolean lies(int row, int i, int n) {
        return i >= 0 && n >= 0 && (long) i + n <= rows.get(row).size();
    }

    int copy(int a, int i, int b, int j, int n) {
        if (!in(a, 0, 7) || !in(b, 0, 7)) {
            return BAD;
        }
        if (!rows.containsKey(a) || !rows.containsKey(b)) {
            return found(1);
        }
        if (!lanes.get(a).equals(lanes.get(b))) {
            return found(5);
        }
        if (!lies(a, i, n) || !lies(b, j, n)) {
            return found(2);
        }
        List<Integer> ahead = new ArrayList<>(rows.get(a).subList(i, i + n));
        for (int k = 0; k < n; k++) {
            rows.get(b).set(j + k, ahead.get(k));
        }
        return fine(n);
    }

    int drop(int row) {
        if (!in(row, 0, 7)) {
            return BAD;
        }
        List<Integer> gone = rows.remove(row);
        return gone == null ? found(1) : fine(gone.size());
    }

    int feed(int letter) {
        if (!in(letter, 0, 255)) {
            return BAD;
        }
        if (tape.length() == 100) {
            return FULL;
        }
        tape.append((char) letter);
        return tape.length();
    }

    /** All TOKENS as texts, each with its place ahead of it; "" stands for the end. */
    private static List<String[]> tokens(String text) {
        List<String[]> tokens = new ArrayList<>();
        java.util.regex.Matcher m = java.util.regex.Pattern.compile("[0-9]+|.", java.util.regex.Pattern.DOTALL).matcher(text);
        while (m.find()) {
            tokens.add(new String[] {"" + m.start(), m.group()});
        }
        tokens.add(new String[] {"" + text.length(), ""});
        return tokens;
    }

    /** {fault, place}, or null. What may stand at each TOKEN follows from its number alone. */
    private static int[] faultOf(List<String[]> tokens) {
        for (int t = 0; t < tokens.size(); t++) {
            String token = tokens.get(t)[1];
            int place = Integer.parseInt(tokens.get(t)[0]);
            int turn = t < 3 ? t : 3 + (t - 3) % 7;
            if (turn == 3 && token.isEmpty()) {
                return null;
            }
            String form = List.of("c", "[0-9]{1,2}", ";", "[bdsne]", "[0-9]{1,2}", ",", "[0-9]{1,2}", ",", "[0-9]{1,2}", ";").get(turn);
            if (!token.matches(form)) {
                return new int[] {1, place};
            }
            int[] range = {0, 0, 1, 30, 0, 0, 0, 0, 0, 9, 0, 0, 1, 9, 0, 0, 0, 9};
            boolean number = form.startsWith("[0");
            if (number && !in(Integer.parseInt(token), range[turn * 2], range[turn * 2 + 1])) {
                return new int[] {2, place};
            }
            if (t == 3 + 6 * 7) {
                return new int[] {3, place};
            }
        }
        throw new IllegalStateException();
    }

    int house() {
        List<String[]> tokens = tokens(tape.toString());
        tape.setLength(0);
        int[] fault = faultOf(tokens);
        if (fault != null) {
            latestFault = fault[0];
            return -1000100 - fault[1];
        }
        now = new Plain();
        now.gap = Integer.parseInt(tokens.get(1)[1]);
        for (int t = 3; t + 7 < tokens.size(); t += 7) {
            Sort s = sortOf("bdsne".indexOf(tokens.get(t)[1]) + 1);
            s.fear = Integer.parseInt(tokens.get(t + 1)[1]);
            s.thick = Integer.parseInt(tokens.get(t + 3)[1]);
            s.holds = Integer.parseInt(tokens.get(t + 5)[1]);
            s.number = now.all.size();
            now.all.add(s);
        }
        acts.clear();
        return now.all.size();
    }

    int fault() {
        return latestFault;
    }

    private void keep() {
        acts.addLast(now.twin());
        if (acts.size() > 24) {
            acts.removeFirst();
        }
    }

    int days(int n) {
        if (now == null) {
            return STATE;
        }
        if (!in(n, 1, 24)) {
            return BAD;
        }
        if (now.day + n > 999) {
            return FULL;
        }
        for (int i = 0; i < n; i++) {
            keep();
            now.passDay();
        }
        return now.bits();
    }

    private boolean no(int letter) {
        return now == null || !in(letter, 0, now.all.size() - 1);
    }

    int answer(int letter) {
        if (no(letter)) {
            return BAD;
        }
        if (!now.all.get(letter).there) {
            return STATE;
        }
        keep();
        now.answer(letter);
        return now.sorrow;
    }

    int post(int letter) {
        if (no(letter)) {
            return BAD;
        }
        if (now.all.get(letter).there) {
            return STATE;
        }
        keep();
        now.post(letter);
        return now.thickness();
    }

    int dread(int letter, int v) {
        if (no(letter) || !in(v, 0, 9)) {
            return BAD;
        }
        keep();
        int was = now.all.get(letter).fear;
        now.all.get(letter).fear = v;
        return was;
    }

    int undo() {
        if (acts.isEmpty()) {
            return STATE;
        }
        now = acts.removeLast();
        return acts.size();
    }

    int letter(int letter, int what) {
        if (no(letter) || !in(what, 0, 5)) {
            return BAD;
        }
        Sort s = now.all.get(letter);
        return new int[] {s.fear, s.thick, s.holds, s.there ? 1 : 0, s.age, now.weighs(s)}[what];
    }

    private int asTold(boolean asTold) {
        return now == null ? STATE : asTold ? 0 : BAD;
    }

    int burden(int d) {
        int refused = asTold(in(d, 0, 60));
        return refused != 0 ? refused : now.later(d).burden();
    }

    int sum(int d) {
        int refused = asTold(in(d, 0, 60));
        return refused != 0 ? refused : now.later(d).sum;
    }

    int behind(int d) {
        int refused = asTold(in(d, 0, 60));
        return refused != 0 ? refused : now.later(d).bits();
    }

    int falls(int what) {
        int refused = asTold(in(what, 0, 1));
        if (refused != 0) {
            return refused;
        }
        for (int d = 1; d <= 60; d++) {
            List<Integer> fallen = now.later(d - 1).passDay();
            if (!fallen.isEmpty()) {
                return what == 0 ? d : fallen.get(0);
            }
        }
        return NONE;
    }

    private static List<List<Integer>> allRows(List<Integer> of) {
        List<List<Integer>> all = new ArrayList<>();
        if (of.isEmpty()) {
            all.add(new ArrayList<>());
        }
        for (Integer first : of) {
            List<Integer> rest = new ArrayList<>(of);
            rest.remove(first);
            for (List<Integer> behind : allRows(rest)) {
                behind.add(0, first);
                all.add(behind);
            }
        }
        return all;
    }

    private int growth(List<Integer> row) {
        Plain p = now.twin();
        int grown = 0;
        for (int i : row) {
            p.answer(i);
            grown += p.burden();
            p.passDay();
        }
        return grown;
    }

    int order(int letters, int k) {
        int refused = asTold(in(letters, 0, 63) && now != null && (letters & now.bits()) == letters && in(k, -1, 5));
        if (refused != 0) {
            return refused;
        }
        List<Integer> told = IntStream.range(0, 6).filter(i -> (letters >> i & 1) == 1).boxed().collect(Collectors.toList());
        List<Integer> best = null;
        for (List<Integer> row : allRows(told)) {
            if (best == null || growth(row) < growth(best)) {
                best = row;
            }
        }
        return k == -1 ? growth(best) : k < best.size() ? best.get(k) : NONE;
    }

    private List<Integer> setsByFewest() {
        return IntStream.range(0, 64).filter(s -> (s & now.bits()) == s).boxed()
                .sorted(Comparator.<Integer>comparingInt(Integer::bitCount).thenComparingInt(s -> s))
                .collect(Collectors.toList());
    }

    int hold(int d, int what) {
        int refused = asTold(in(d, 1, 60) && in(what, 0, 1));
        if (refused != 0) {
            return refused;
        }
        for (int s : setsByFewest()) {
            if (now.without(s).later(d).bits() == now.without(s).bits()) {
                return what == 0 ? Integer.bitCount(s) : s;
            }
        }
        throw new IllegalStateException();
    }

    int ease(int d, int q, int what) {
        int refused = asTold(in(d, 1, 60) && in(q, 0, 300) && in(what, 0, 1));
        if (refused != 0) {
            return refused;
        }
        for (int s : setsByFewest()) {
            if (now.without(s).burdens(d).stream().allMatch(b -> b <= q)) {
                return what == 0 ? Integer.bitCount(s) : s;
            }
        }
        throw new IllegalStateException();
    }

    private Plain changed(int letter, int what, int v) {
        Plain p = now.twin();
        Sort s = p.all.get(letter);
        if (what == 0) {
            s.fear = v;
        } else if (what == 1) {
            s.age = v;
        } else {
            p.all.set(letter, s.fill(sortOf(v)));
        }
        return p;
    }

    int fits(int letter, int row, int i, int n, int what) {
        if (no(letter) || !in(row, 0, 7) || !in(n, 1, 16) || !in(what, 0, 2)) {
            return BAD;
        }
        if (!rows.containsKey(row)) {
            return found(1);
        }
        if (!lies(row, i, n)) {
            return found(2);
        }
        List<Integer> told = rows.get(row).subList(i, i + n);
        int[] from = {0, 0, 1};
        int[] to = {9, 20, 5};
        return fine(IntStream.rangeClosed(from[what], to[what])
                .filter(v -> changed(letter, what, v).burdens(n).equals(told)).map(v -> 1 << v).sum());
    }

    int stealth(int row, int i, int n) {
        int refused = asTold(in(row, 0, 7) && in(n, 1, 16));
        if (refused != 0) {
            return refused;
        }
        if (!rows.containsKey(row)) {
            return found(1);
        }
        if (!lies(row, i, n)) {
            return found(2);
        }
        List<Integer> told = rows.get(row).subList(i, i + n);
        int bits = now.burdens(n).equals(told) ? 64 : 0;
        for (Sort s : now.there()) {
            bits += now.without(1 << s.number).burdens(n).equals(told) ? 1 << s.number : 0;
        }
        return fine(bits);
    }

    int lost(int q, int c, int what) {
        int refused = asTold(in(q, 0, 300) && in(c, 0, 10) && in(what, 0, 1));
        if (refused != 0) {
            return refused;
        }
        BigInteger above = BigInteger.ZERO;
        BigInteger below = BigInteger.TEN.pow(now.there().size());
        for (int s : setsByFewest()) {
            Plain p = now.without(s);
            if (p.burden() <= q) {
                above = above.add(BigInteger.valueOf(c).pow(Integer.bitCount(s))
                        .multiply(BigInteger.valueOf(10 - c).pow(p.there().size())));
            }
        }
        BigInteger shared = above.gcd(below);
        return (what == 0 ? above : below).divide(shared).intValueExact();
    }

    int drawn(int n, int seed, int what) {
        int refused = asTold(in(n, 0, 60) && in(seed, 1, 999999) && in(what, 0, 1));
        if (refused != 0) {
            return refused;
        }
        Plain p = now.twin();
        BigInteger x = BigInteger.valueOf(seed);
        for (int t = 0; t < n; t++) {
            x = x.multiply(BigInteger.valueOf(16807)).mod(BigInteger.valueOf(2147483647));
            int by3 = x.mod(BigInteger.valueOf(3)).intValue();
            if (!p.all.isEmpty()) {
                int one = x.mod(BigInteger.valueOf(p.all.size())).intValue();
                if (by3 == 0) {
                    p.answer(one);
                }
                if (by3 == 1) {
                    p.post(one);
                }
            }
            p.passDay();
        }
        return what == 0 ? p.sum : p.sorrow;
    }

    int image(int k) {
        if (!in(k, 0, 1)) {
            return BAD;
        }
        if (now == null) {
            return STATE;
        }
        images[k] = now.twin();
        return 1;
    }

    int restore(int k) {
        if (!in(k, 0, 1)) {
            return BAD;
        }
        if (images[k] == null) {
            return STATE;
        }
        now = images[k].twin();
        acts.clear();
        return 1;
    }

    int kind(int letter) {
        return no(letter) ? BAD : now.all.get(letter).kind();
    }

    int as(int letter, int kind) {
        if (no(letter) || !in(kind, 0, 5)) {
            return BAD;
        }
        List<Class<? extends Sort>> kinds =
                Arrays.asList(Sort.class, Bill.class, Dun.class, Stale.class, Note.class, Black.class);
        return kinds.get(kind).isInstance(now.all.get(letter)) ? fine(letter) : found(3);
    }

    int ask(int letter, int what) {
        if (no(letter) || !in(what, 0, 1)) {
            return BAD;
        }
        traced.clear();
        Sort s = now.all.get(letter);
        s.trace = traced;
        return what == 0 ? s.size() : s.mark();
    }

    int trace(int i) {
        return in(i, 0, Math.min(16, traced.size()) - 1) ? traced.get(i) : NONE;
    }

    int count(int what) {
        if (!in(what, 0, 9)) {
            return BAD;
        }
        Plain p = now == null ? new Plain() : now;
        return new int[] {rows.size(), p.all.size(), p.day, p.bits(), p.thickness(), p.sum, acts.size(), tape.length(),
            p.sorrow, p.gap}[what];
    }

    int status() {
        return finding;
    }
}
