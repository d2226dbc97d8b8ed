import java.util.Arrays;

/** What is put behind the clock and ought to be answered: ../shared/DOC.md tells the words in capitals. */
public final class ClockPost {
    public static final int NONE = -1000000, BAD = -1000001, STATE = -1000002, FULL = -1000003;

    private static final int FINDING_BASE = -1000010, FAULT_BASE = -1000100;
    private static final int NULL = 1, PLACE = 2, KIND = 3, SIZE = 4, STORE = 5;
    private static final int ROW_COUNT = 8, MOST_ITEMS = 40, BYTES = 0, SHORTS = 1, INTS = 2;
    private static final int MOST_BYTES = 100, MOST_LETTERS = 6, LETTER_SETS = 1 << MOST_LETTERS;
    private static final int MOST_GAP = 30, MOST_FIGURE = 9;
    private static final int LETTER = 0, BILL = 1, DUN = 2, STALE = 3, NOTE = 4, BLACK = 5;
    private static final int STALE_AGE = 9, MOST_AGE = 99, MOST_TOLD = 9999;
    private static final int MOST_DAYS_AT_ONCE = 24, LAST_DAY = 999, ACTS_KEPT = 24, IMAGE_COUNT = 2;
    /** More than SUM can grow in as many DAYS as there are LETTERS. */
    private static final int NO_ORDER_YET = 1000000;
    private static final int FARTHEST = 60, HEAVIEST = 300, MOST_COMPARED = 16, MOST_TRIED_AGE = 20;
    private static final int AS_IT_IS = 64, TENTHS = 10;
    private static final int DRAW_TIMES = 16807, DRAW_REST = 2147483647, MOST_SEED = 999999;
    private static final int MOST_TRACED = 16, DEEPEST_BODY = 16, ASK_SIZE = 0, ASK_MARK = 1;

    /** The KIND that each KIND is, too. */
    private static final int[] NEAREST_KIND = {LETTER, LETTER, BILL, BILL, LETTER, NOTE};
    /** The BODIES that begin for each KIND: its own, or that of the nearest KIND that has one. */
    private static final int[] SIZE_BODIES = {10, 11, 12, 11, 13, 14};
    private static final int[] MARK_BODIES = {20, 21, 24, 22, 23, 23};

    private final Row[] rows = new Row[ROW_COUNT];
    private final Tape tape = new Tape();
    private final House now = new House();
    private final House foretold = new House();
    private final House[] images = new House[IMAGE_COUNT];
    private final Acts acts = new Acts();
    private final OrderSearch orders = new OrderSearch();
    private final Trace traced = new Trace();
    private int finding;

    public ClockPost() {
        for (int i = 0; i < rows.length; i++) {
            rows[i] = new Row();
        }
        for (int i = 0; i < images.length; i++) {
            images[i] = new House();
        }
    }

    // ---- rows

    public int row(int row, int lane, int n) {
        if (!isRow(row) || !isWithin(lane, BYTES, INTS) || n > MOST_ITEMS) {
            return BAD;
        }
        if (n < 0) {
            return found(SIZE);
        }
        rows[row].lay(lane, n);
        return foundNothing(n);
    }

    public int set(int row, int i, int v) {
        if (!isRow(row)) {
            return BAD;
        }
        if (rows[row].missing) {
            return found(NULL);
        }
        if (!rows[row].hasPlaces(i, 1)) {
            return found(PLACE);
        }
        return foundNothing(rows[row].put(i, v));
    }

    public int copy(int a, int i, int b, int j, int n) {
        if (!isRow(a) || !isRow(b)) {
            return BAD;
        }
        Row from = rows[a];
        Row to = rows[b];
        if (from.missing || to.missing) {
            return found(NULL);
        }
        if (from.lane != to.lane) {
            return found(STORE);
        }
        if (!from.hasPlaces(i, n) || !to.hasPlaces(j, n)) {
            return found(PLACE);
        }
        System.arraycopy(from.items, i, to.items, j, n);
        return foundNothing(n);
    }

    public int drop(int row) {
        if (!isRow(row)) {
            return BAD;
        }
        if (rows[row].missing) {
            return found(NULL);
        }
        rows[row].missing = true;
        return foundNothing(rows[row].size);
    }

    // ---- houses, acts (sets of LETTERS told as bits)

    public int feed(int letter) {
        if (!isWithin(letter, 0, 255)) {
            return BAD;
        }
        return tape.add(letter) ? tape.length : FULL;
    }

    public int house() {
        // read apart, so that a FAULT leaves the HOUSE that stands
        boolean read = tape.readInto(foretold);
        tape.length = 0;
        if (!read) {
            return FAULT_BASE - tape.place;
        }
        now.become(foretold);
        acts.forgetAll();
        return now.letterCount;
    }

    public int fault() {
        return tape.latestFault;
    }

    public int days(int n) {
        if (!now.stands) {
            return STATE;
        }
        if (!isWithin(n, 1, MOST_DAYS_AT_ONCE)) {
            return BAD;
        }
        if (now.day + n > LAST_DAY) {
            return FULL;
        }
        for (int t = 0; t < n; t++) {
            acts.keep(now);
            now.passDay();
        }
        return now.behindBits;
    }

    public int answer(int letter) {
        if (!now.hasLetter(letter)) {
            return BAD;
        }
        if (!now.isBehind(letter)) {
            return STATE;
        }
        acts.keep(now);
        now.answerOne(letter);
        return now.sorrow;
    }

    public int post(int letter) {
        if (!now.hasLetter(letter)) {
            return BAD;
        }
        if (now.isBehind(letter)) {
            return STATE;
        }
        acts.keep(now);
        now.putBehind(letter);
        return now.thickness();
    }

    public int dread(int letter, int v) {
        if (!now.hasLetter(letter) || !isWithin(v, 0, MOST_FIGURE)) {
            return BAD;
        }
        acts.keep(now);
        int before = now.letters[letter].fear;
        now.letters[letter].fear = v;
        return before;
    }

    public int undo() {
        return acts.takeBack(now) ? acts.kept : STATE;
    }

    public int letter(int letter, int what) {
        if (!now.hasLetter(letter)) {
            return BAD;
        }
        Letter one = now.letters[letter];
        switch (what) {
            case 0: return one.fear;
            case 1: return one.thick;
            case 2: return one.holds;
            case 3: return now.isBehind(letter) ? 1 : 0;
            case 4: return one.age;
            case 5: return now.weightOf(letter);
            default: return BAD;
        }
    }

    // ---- foretold

    public int burden(int d) {
        int refusal = refusalOf(isWithin(d, 0, FARTHEST));
        return refusal != 0 ? refusal : foretell(d).weight();
    }

    public int sum(int d) {
        int refusal = refusalOf(isWithin(d, 0, FARTHEST));
        return refusal != 0 ? refusal : foretell(d).sum;
    }

    public int behind(int d) {
        int refusal = refusalOf(isWithin(d, 0, FARTHEST));
        return refusal != 0 ? refusal : foretell(d).behindBits;
    }

    public int falls(int what) {
        int refusal = refusalOf(isWithin(what, 0, 1));
        if (refusal != 0) {
            return refusal;
        }
        foretold.become(now);
        for (int d = 1; d <= FARTHEST; d++) {
            int first = foretold.passDay();
            if (first != NONE) {
                return what == 0 ? d : first;
            }
        }
        return NONE;
    }

    public int order(int letters, int k) {
        boolean allBehind = (letters & ~now.behindBits) == 0;
        int refusal = refusalOf(allBehind && isWithin(k, -1, MOST_LETTERS - 1));
        if (refusal != 0) {
            return refusal;
        }
        if (k >= Integer.bitCount(letters)) {
            return NONE;
        }
        orders.search(now, letters);
        return k < 0 ? orders.leastGrowth : orders.best[k];
    }

    public int hold(int d, int what) {
        int refusal = refusalOf(isWithin(d, 1, FARTHEST) && isWithin(what, 0, 1));
        if (refusal != 0) {
            return refusal;
        }
        // with all of them answered nothing is left that could fall
        int fewest = now.behindBits;
        for (int tried = 0; tried < LETTER_SETS; tried++) {
            if (isSmallerPart(tried, fewest) && nothingFallsWithout(tried, d)) {
                fewest = tried;
            }
        }
        return what == 0 ? Integer.bitCount(fewest) : fewest;
    }

    public int ease(int d, int q, int what) {
        int refusal = refusalOf(isWithin(d, 1, FARTHEST) && isWithin(q, 0, HEAVIEST) && isWithin(what, 0, 1));
        if (refusal != 0) {
            return refusal;
        }
        // with all of them answered nothing is left that could weigh
        int fewest = now.behindBits;
        for (int tried = 0; tried < LETTER_SETS; tried++) {
            if (isSmallerPart(tried, fewest) && staysEasyWithout(tried, d, q)) {
                fewest = tried;
            }
        }
        return what == 0 ? Integer.bitCount(fewest) : fewest;
    }

    public int fits(int letter, int row, int i, int n, int what) {
        if (!now.hasLetter(letter) || !isRow(row) || !isWithin(n, 1, MOST_COMPARED) || !isWithin(what, 0, 2)) {
            return BAD;
        }
        int flaw = flawOf(rows[row], i, n);
        if (flaw != 0) {
            return found(flaw);
        }
        int fitting = 0;
        for (int v = leastTried(what); v <= mostTried(what); v++) {
            foretold.become(now);
            foretold.letters[letter].change(what, v);
            if (isToldBy(rows[row], i, n)) {
                fitting |= 1 << v;
            }
        }
        return foundNothing(fitting);
    }

    public int stealth(int row, int i, int n) {
        int refusal = refusalOf(isRow(row) && isWithin(n, 1, MOST_COMPARED));
        if (refusal != 0) {
            return refusal;
        }
        int flaw = flawOf(rows[row], i, n);
        if (flaw != 0) {
            return found(flaw);
        }
        foretold.become(now);
        int suspects = isToldBy(rows[row], i, n) ? AS_IT_IS : 0;
        for (int one = 0; one < now.letterCount; one++) {
            if (now.isBehind(one)) {
                foretellWithout(1 << one);
                suspects |= isToldBy(rows[row], i, n) ? 1 << one : 0;
            }
        }
        return foundNothing(suspects);
    }

    public int lost(int q, int c, int what) {
        int refusal = refusalOf(isWithin(q, 0, HEAVIEST) && isWithin(c, 0, TENTHS) && isWithin(what, 0, 1));
        if (refusal != 0) {
            return refusal;
        }
        int above = 0;
        for (int gone = 0; gone < LETTER_SETS; gone++) {
            if ((gone & ~now.behindBits) == 0) {
                foretellWithout(gone);
                int left = Integer.bitCount(foretold.behindBits);
                boolean light = foretold.weight() <= q;
                above += light ? power(c, Integer.bitCount(gone)) * power(TENTHS - c, left) : 0;
            }
        }
        int below = power(TENTHS, Integer.bitCount(now.behindBits));
        // what 0 shares with below is below, so that 0 comes out as 0 by 1
        int shared = Math.max(1, greatestShared(above, below));
        return what == 0 ? above / shared : below / shared;
    }

    public int drawn(int n, int seed, int what) {
        int refusal = refusalOf(isWithin(n, 0, FARTHEST) && isWithin(seed, 1, MOST_SEED) && isWithin(what, 0, 1));
        if (refusal != 0) {
            return refusal;
        }
        foretold.become(now);
        long x = seed;
        for (int t = 0; t < n; t++) {
            x = x * DRAW_TIMES % DRAW_REST;
            foretold.takeDraw(x);
            foretold.passDay();
        }
        return what == 0 ? foretold.sum : foretold.sorrow;
    }

    public int image(int k) {
        if (!isWithin(k, 0, IMAGE_COUNT - 1)) {
            return BAD;
        }
        if (!now.stands) {
            return STATE;
        }
        images[k].become(now);
        return 1;
    }

    public int restore(int k) {
        if (!isWithin(k, 0, IMAGE_COUNT - 1)) {
            return BAD;
        }
        if (!images[k].stands) {
            return STATE;
        }
        now.become(images[k]);
        acts.forgetAll();
        return 1;
    }

    // ---- asked

    public int kind(int letter) {
        return now.hasLetter(letter) ? now.letters[letter].kind : BAD;
    }

    public int as(int letter, int kind) {
        if (!now.hasLetter(letter) || !isWithin(kind, LETTER, BLACK)) {
            return BAD;
        }
        return isOfKind(now.letters[letter].kind, kind) ? foundNothing(letter) : found(KIND);
    }

    public int ask(int letter, int what) {
        if (!now.hasLetter(letter) || !isWithin(what, ASK_SIZE, ASK_MARK)) {
            return BAD;
        }
        traced.length = 0;
        Letter asked = now.letters[letter];
        return begin(traced, bodyOf(what, asked.kind), asked, letter, 0);
    }

    public int trace(int i) {
        return isWithin(i, 0, traced.length - 1) ? traced.bodies[i] : NONE;
    }

    public int count(int what) {
        switch (what) {
            case 0: return rowsThere();
            case 1: return now.letterCount;
            case 2: return now.day;
            case 3: return now.behindBits;
            case 4: return now.thickness();
            case 5: return now.sum;
            case 6: return acts.kept;
            case 7: return tape.length;
            case 8: return now.sorrow;
            case 9: return now.gap;
            default: return BAD;
        }
    }

    public int status() {
        return finding;
    }

    // ---- refusals and findings

    private static boolean isWithin(int v, int least, int most) {
        return v >= least && v <= most;
    }

    private static boolean isRow(int row) {
        return isWithin(row, 0, ROW_COUNT - 1);
    }

    /** STATE ahead of BAD, as the calls ask that foretell; 0: neither. */
    private int refusalOf(boolean numbersAsTold) {
        if (!now.stands) {
            return STATE;
        }
        return numbersAsTold ? 0 : BAD;
    }

    /** The FINDING of n ITEMS from i on; 0: none. */
    private static int flawOf(Row row, int i, int n) {
        if (row.missing) {
            return NULL;
        }
        return row.hasPlaces(i, n) ? 0 : PLACE;
    }

    private int found(int number) {
        finding = number;
        return FINDING_BASE - number;
    }

    private int foundNothing(int told) {
        finding = 0;
        return told;
    }

    private int rowsThere() {
        int there = 0;
        for (int i = 0; i < rows.length; i++) {
            there += rows[i].missing ? 0 : 1;
        }
        return there;
    }

    // ---- foretelling: all of it happens to the HOUSE foretold, never to the one that stands

    private House foretell(int d) {
        foretold.become(now);
        for (int t = 0; t < d; t++) {
            foretold.passDay();
        }
        return foretold;
    }

    private void foretellWithout(int gone) {
        foretold.become(now);
        foretold.behindBits = now.behindBits & ~gone;
    }

    /** Sets come by their numbers, so one that is not smaller cannot take the place of the one found. */
    private boolean isSmallerPart(int tried, int fewest) {
        return (tried & ~now.behindBits) == 0 && Integer.bitCount(tried) < Integer.bitCount(fewest);
    }

    private boolean nothingFallsWithout(int answered, int d) {
        foretellWithout(answered);
        for (int t = 0; t < d; t++) {
            if (foretold.passDay() != NONE) {
                return false;
            }
        }
        return true;
    }

    private boolean staysEasyWithout(int answered, int d, int q) {
        foretellWithout(answered);
        for (int t = 0; t < d; t++) {
            if (foretold.weight() > q) {
                return false;
            }
            foretold.passDay();
        }
        return true;
    }

    private boolean isToldBy(Row row, int i, int n) {
        for (int t = 0; t < n; t++) {
            if (foretold.weight() != row.itemAt(i + t)) {
                return false;
            }
            foretold.passDay();
        }
        return true;
    }

    private static int leastTried(int what) {
        return what == 2 ? BILL : 0;
    }

    private static int mostTried(int what) {
        switch (what) {
            case 0: return MOST_FIGURE;
            case 1: return MOST_TRIED_AGE;
            default: return BLACK;
        }
    }

    private static int power(int base, int times) {
        int product = 1;
        for (int t = 0; t < times; t++) {
            product *= base;
        }
        return product;
    }

    private static int greatestShared(int a, int b) {
        int greater = a;
        int rest = b;
        // Euclid's steps on numbers up to 1000000 are fewer than 32
        for (int t = 0; t < 32 && rest != 0; t++) {
            int next = greater % rest;
            greater = rest;
            rest = next;
        }
        return greater;
    }

    // ---- asking

    private static boolean isOfKind(int kind, int wanted) {
        return kind == wanted || wanted == LETTER || nearestKind(kind) == wanted;
    }

    private static int nearestKind(int kind) {
        return isWithin(kind, LETTER, BLACK) ? NEAREST_KIND[kind] : LETTER;
    }

    private static int bodyOf(int what, int kind) {
        int known = isWithin(kind, LETTER, BLACK) ? kind : LETTER;
        return what == ASK_SIZE ? SIZE_BODIES[known] : MARK_BODIES[known];
    }

    /** What a BODY gives; where it says SIZE or MARK, the LETTER's own KIND tells which BODY that is. */
    private static int begin(Trace trace, int body, Letter asked, int number, int depth) {
        if (depth > DEEPEST_BODY) {
            return 0;
        }
        trace.leave(body);
        int deeper = depth + 1;
        switch (body) {
            case 10: return asked.thick;
            case 11: return begin(trace, 10, asked, number, deeper)
                    + begin(trace, bodyOf(ASK_MARK, asked.kind), asked, number, deeper);
            case 12: return -begin(trace, 11, asked, number, deeper);
            case 13: return begin(trace, 10, asked, number, deeper) - 100;
            case 14: return 2 * begin(trace, 13, asked, number, deeper);
            case 20: return number;
            case 21: return begin(trace, 20, asked, number, deeper) + asked.age;
            case 22: return begin(trace, 21, asked, number, deeper) - 1000;
            case 23: return begin(trace, 20, asked, number, deeper)
                    - begin(trace, bodyOf(ASK_SIZE, asked.kind), asked, number, deeper);
            case 24: return 2 * begin(trace, 21, asked, number, deeper);
            default: return 0;
        }
    }

    /** A ROW. Its ITEMS lie in ints whatever its LANE is, so that it is made once; put() cuts them. */
    private static final class Row {
        final int[] items = new int[MOST_ITEMS];
        boolean missing = true;
        int lane;
        int size;

        void lay(int newLane, int n) {
            Arrays.fill(items, 0);
            missing = false;
            lane = newLane;
            size = n;
        }

        boolean hasPlaces(int i, int n) {
            return i >= 0 && n >= 0 && n <= size - i;
        }

        int put(int i, int v) {
            int cut = lane == BYTES ? (byte) v : lane == SHORTS ? (short) v : v;
            if (hasPlaces(i, 1)) {
                items[i] = cut;
            }
            return cut;
        }

        int itemAt(int i) {
            return hasPlaces(i, 1) ? items[i] : 0;
        }
    }

    /** THE TAPE, and the reading of it. */
    private static final class Tape {
        final int[] bytes = new int[MOST_BYTES];
        int length;
        int latestFault;
        /** Where the TOKEN begins that is read next; behind a FAULT: that has it. */
        int place;
        private int number;

        boolean add(int letter) {
            if (length >= bytes.length) {
                return false;
            }
            bytes[length] = letter;
            length++;
            return true;
        }

        boolean readInto(House house) {
            place = 0;
            house.clear();
            house.stands = readLaw(house) && readLetters(house);
            return house.stands;
        }

        private boolean readLaw(House house) {
            if (!readSign('c') || !readNumber(1, MOST_GAP)) {
                return false;
            }
            house.gap = number;
            return readSign(';');
        }

        private boolean readLetters(House house) {
            // one time more than there is room, for the LETTER that is too many
            for (int i = 0; i <= MOST_LETTERS && place < length; i++) {
                if (!readLetter(house)) {
                    return false;
                }
            }
            return true;
        }

        private boolean readLetter(House house) {
            int kind = kindToldBy(byteAt(place));
            if (kind == LETTER) {
                return fail(1);
            }
            if (house.letterCount >= MOST_LETTERS) {
                return fail(3);
            }
            place++;
            Letter letter = house.letters[house.letterCount];
            letter.kind = kind;
            letter.age = 0;
            if (!readFigures(letter)) {
                return false;
            }
            house.behindBits |= 1 << house.letterCount;
            house.letterCount++;
            return true;
        }

        private boolean readFigures(Letter letter) {
            if (!readNumber(0, MOST_FIGURE)) {
                return false;
            }
            letter.fear = number;
            if (!readSign(',') || !readNumber(1, MOST_FIGURE)) {
                return false;
            }
            letter.thick = number;
            if (!readSign(',') || !readNumber(0, MOST_FIGURE)) {
                return false;
            }
            letter.holds = number;
            return readSign(';');
        }

        private static int kindToldBy(int sort) {
            switch (sort) {
                case 'b': return BILL;
                case 'd': return DUN;
                case 's': return STALE;
                case 'n': return NOTE;
                case 'e': return BLACK;
                default: return LETTER;
            }
        }

        private boolean readSign(char sign) {
            if (byteAt(place) != sign) {
                return fail(1);
            }
            place++;
            return true;
        }

        private boolean readNumber(int least, int most) {
            int figures = 0;
            int value = 0;
            // the third figure, if there is one, already tells that it is no NUMBER
            for (int i = 0; i < 3 && isFigure(byteAt(place + i)); i++) {
                value = value * 10 + byteAt(place + i) - '0';
                figures++;
            }
            if (figures < 1 || figures > 2) {
                return fail(1);
            }
            if (!isWithin(value, least, most)) {
                return fail(2);
            }
            place += figures;
            number = value;
            return true;
        }

        private static boolean isFigure(int sign) {
            return sign >= '0' && sign <= '9';
        }

        /** A byte of the tape; -1 at its end. */
        private int byteAt(int i) {
            return i >= 0 && i < length && i < bytes.length ? bytes[i] : -1;
        }

        private boolean fail(int fault) {
            latestFault = fault;
            return false;
        }
    }

    /** A LETTER; whether it is BEHIND is known by its HOUSE. */
    private static final class Letter {
        int kind = BILL;
        int fear;
        int thick;
        int holds;
        int age;

        void become(Letter other) {
            kind = other.kind;
            fear = other.fear;
            thick = other.thick;
            holds = other.holds;
            age = other.age;
        }

        /** What FEARS (0), AGES (1), SORTS (2) try. */
        void change(int what, int v) {
            switch (what) {
                case 0: fear = v; break;
                case 1: age = v; break;
                default: kind = v; break;
            }
        }

        int weighAmong(int others) {
            switch (kind) {
                case DUN: return 2 * (fear + age);
                case STALE: return age < STALE_AGE ? fear + age : 0;
                case NOTE: return fear;
                case BLACK: return fear + others;
                default: return fear + age;
            }
        }

        boolean fallsAheadOf(Letter other) {
            return thick > other.thick || thick == other.thick && age > other.age;
        }
    }

    /** A HOUSE, as it is, as it is foretold, as it was, or as an IMAGE keeps it. */
    private static final class House {
        final Letter[] letters = new Letter[MOST_LETTERS];
        boolean stands;
        int letterCount;
        int gap;
        int behindBits;
        int day;
        int sum;
        int sorrow;

        House() {
            for (int i = 0; i < letters.length; i++) {
                letters[i] = new Letter();
            }
        }

        void clear() {
            stands = false;
            letterCount = 0;
            gap = 0;
            behindBits = 0;
            day = 0;
            sum = 0;
            sorrow = 0;
        }

        void become(House other) {
            stands = other.stands;
            letterCount = other.letterCount;
            gap = other.gap;
            behindBits = other.behindBits;
            day = other.day;
            sum = other.sum;
            sorrow = other.sorrow;
            for (int i = 0; i < letterCount; i++) {
                letters[i].become(other.letters[i]);
            }
        }

        boolean hasLetter(int i) {
            return i >= 0 && i < letterCount;
        }

        boolean isBehind(int i) {
            return hasLetter(i) && (behindBits >> i & 1) == 1;
        }

        int weightOf(int i) {
            return isBehind(i) ? letters[i].weighAmong(Integer.bitCount(behindBits) - 1) : 0;
        }

        /** The BURDEN. */
        int weight() {
            int all = 0;
            for (int i = 0; i < letterCount; i++) {
                all += weightOf(i);
            }
            return all;
        }

        int thickness() {
            int all = 0;
            for (int i = 0; i < letterCount; i++) {
                all += isBehind(i) ? letters[i].thick : 0;
            }
            return all;
        }

        /** A DAY: which LETTER FALLS first, or NONE. */
        int passDay() {
            sum = Math.min(MOST_TOLD, sum + weight());
            for (int i = 0; i < letterCount; i++) {
                if (isBehind(i)) {
                    letters[i].age = Math.min(MOST_AGE, letters[i].age + 1);
                }
            }
            day++;
            int first = NONE;
            for (int t = 0; t < letterCount && thickness() > gap; t++) {
                int next = nextToFall();
                if (hasLetter(next)) {
                    takeAway(next, letters[next].holds);
                    first = first == NONE ? next : first;
                }
            }
            return first;
        }

        private int nextToFall() {
            int next = NONE;
            for (int i = 0; i < letterCount; i++) {
                if (isBehind(i) && (!hasLetter(next) || letters[i].fallsAheadOf(letters[next]))) {
                    next = i;
                }
            }
            return next;
        }

        private void takeAway(int i, int grief) {
            behindBits &= ~(1 << i);
            sorrow = Math.min(MOST_TOLD, sorrow + grief);
        }

        void answerOne(int i) {
            if (isBehind(i)) {
                takeAway(i, letters[i].holds / 2);
            }
        }

        void putBehind(int i) {
            if (hasLetter(i) && !isBehind(i)) {
                behindBits |= 1 << i;
                letters[i].age = 0;
            }
        }

        void takeDraw(long x) {
            if (letterCount < 1) {
                return;
            }
            int one = (int) (x % letterCount);
            if (x % 3 == 0) {
                answerOne(one);
            } else if (x % 3 == 1) {
                putBehind(one);
            }
        }
    }

    /** The HOUSE as it was ahead of each ACT that can be undone, in a ring. */
    private static final class Acts {
        private final House[] before = new House[ACTS_KEPT];
        private int oldest;
        int kept;

        Acts() {
            for (int i = 0; i < before.length; i++) {
                before[i] = new House();
            }
        }

        void keep(House house) {
            before[(oldest + kept) % ACTS_KEPT].become(house);
            if (kept < ACTS_KEPT) {
                kept++;
            } else {
                oldest = (oldest + 1) % ACTS_KEPT;
            }
        }

        boolean takeBack(House house) {
            if (kept < 1) {
                return false;
            }
            kept--;
            house.become(before[(oldest + kept) % ACTS_KEPT]);
            return true;
        }

        void forgetAll() {
            kept = 0;
        }
    }

    /** The search for the ORDER: every row of the told LETTERS, by numbers. */
    private static final class OrderSearch {
        private final House[] stages = new House[MOST_LETTERS + 1];
        private final int[] tried = new int[MOST_LETTERS];
        final int[] best = new int[MOST_LETTERS];
        int leastGrowth;

        OrderSearch() {
            for (int i = 0; i < stages.length; i++) {
                stages[i] = new House();
            }
        }

        void search(House house, int letters) {
            stages[0].become(house);
            leastGrowth = NO_ORDER_YET;
            extend(this, letters, 0, 0);
        }

        /** A row that has grown as much as the best cannot come ahead of it any more: no day takes away. */
        private static void extend(OrderSearch s, int left, int grown, int depth) {
            if (grown >= s.leastGrowth) {
                return;
            }
            if (left == 0 || depth >= MOST_LETTERS) {
                s.leastGrowth = grown;
                System.arraycopy(s.tried, 0, s.best, 0, MOST_LETTERS);
                return;
            }
            House next = s.stages[depth + 1];
            for (int i = 0; i < MOST_LETTERS; i++) {
                if ((left >> i & 1) == 1) {
                    next.become(s.stages[depth]);
                    next.answerOne(i);
                    s.tried[depth] = i;
                    int today = next.weight();
                    next.passDay();
                    extend(s, left & ~(1 << i), grown + today, depth + 1);
                }
            }
        }
    }

    /** THE TRACE. */
    private static final class Trace {
        final int[] bodies = new int[MOST_TRACED];
        int length;

        void leave(int body) {
            if (length < bodies.length) {
                bodies[length] = body;
                length++;
            }
        }
    }
}
