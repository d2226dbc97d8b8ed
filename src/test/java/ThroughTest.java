/** The document once from its first line to its last: what each promise says, by its own words, mostly of one HOUSE. */
public final class ThroughTest {
    private static final int NONE = ClockPost.NONE, BAD = ClockPost.BAD, STATE = ClockPost.STATE;
    private static final int NULL = -1000011, PLACE = -1000012, KIND = -1000013, SIZE = -1000014, STORE = -1000015;
    /** As thick as GAP; one of each SORT. */
    private static final String TEXT = "c12;b2,3,5;d1,2,4;s4,1,7;n6,4,9;e3,2,1;";

    public static void main(String[] args) {
        Check check = new Check();
        noHouse(check);
        refusals(check);
        rows(check);
        tape(check);
        firstDay(check);
        acts(check);
        lettersNow(check);
        daysToCome(check);
        order(check);
        ease(check);
        fallsAndHold(check);
        concluded(check);
        likely(check);
        years(check);
        images(check);
        kinds(check);
        asks(check);
        counts(check);
        status(check);
        int[] all = new int[33];
        for (int i = 0; i < all.length; i++) {
            all[i] = i + 1;
        }
        check.end(all);
    }

    /** Behind one DAY, the dun answered and put there again: AGES 1, 0, 1, 1, 1; SUM 21, SORROW 2. */
    private static ClockPost house() {
        ClockPost x = Check.house(TEXT);
        x.days(1);
        x.answer(1);
        x.post(1);
        return x;
    }

    private static void noHouse(Check c) {
        c.holds(1, "No HOUSE.");
        ClockPost x = new ClockPost();
        c.due("counts", Check.counts(x), 0, 0, 0, 0, 0, 0, 0, 0, 0, 0);
        c.due("foretold", new int[] {x.burden(0), x.sum(0), x.behind(0), x.days(1)}, STATE, STATE, STATE, STATE);
        c.due("letters", new int[] {x.letter(0, 0), x.kind(0), x.answer(0), x.ask(0, 0)}, BAD, BAD, BAD, BAD);
        c.due("the rest", new int[] {x.undo(), x.fault(), x.status(), x.trace(0)}, STATE, 0, 0, NONE);
    }

    private static void refusals(Check c) {
        c.holds(4, "the first of these that fits, but as told");
        ClockPost x = new ClockPost();
        x.row(0, 0, 2);
        x.row(1, 1, 2);
        c.due("BAD ahead of all", x.copy(0, -1, 8, 0, -1), BAD);
        c.due("NULL ahead of PLACE", x.copy(0, -1, 2, 0, -1), NULL);
        c.due("STORE ahead of PLACE", x.copy(0, -1, 1, 0, -1), STORE);
        c.due("PLACE", x.copy(0, -1, 0, 0, -1), PLACE);
        c.due("BAD ahead of SIZE", x.row(0, 3, -1), BAD);
        c.due("SIZE", x.row(0, 2, -1), SIZE);
        c.due("BAD ahead of STATE", x.image(2), BAD);
        c.due("STATE ahead of BAD, as told", x.days(25), STATE);
        Check.read(x, "c1;");
        Check.pass(x, 999);
        c.due("BAD ahead of FULL", new int[] {x.days(0), x.days(1)}, BAD, ClockPost.FULL);
        c.due("BAD ahead of NULL", new int[] {x.stealth(2, 0, 17), x.stealth(2, 41, 1), x.stealth(1, 2, 1)}, BAD, NULL, PLACE);
    }

    private static void rows(Check c) {
        ClockPost x = Check.house("c1;n0,1,0;");
        c.holds(2, "A ROW of a LANE with n ITEMS, in place of what is there: n");
        c.due("rows", new int[] {x.row(0, 0, 3), x.row(1, 1, 40), x.row(1, 0, 5), x.row(7, 2, 0)}, 3, 40, 5, 0);
        c.due("laid anew", x.set(1, 5, 0), PLACE);
        c.holds(3, "ITEM i becomes v, its lowest bits, as many as the LANE has: what it is then");
        c.due("bytes", new int[] {x.set(0, 0, 1), x.set(0, 1, 127), x.set(0, 2, 300)}, 1, 127, 44);
        c.holds(4, "n ITEMS of a from i on come to b from j on, as they were ahead: n");
        x.set(1, 0, 9);
        c.due("between rows", new int[] {x.copy(0, 0, 1, 1, 1), x.copy(1, 0, 1, 1, 4)}, 1, 4);
        c.due("items", Check.items(x, 1, 5), 9, 9, 1, 0, 0);
        c.holds(5, "A ROW is missing from now on: how many ITEMS it had");
        c.due("dropped", new int[] {x.drop(1), x.drop(1), x.set(1, 0, 0), x.drop(0)}, 5, NULL, NULL, 3);
        c.due("one is left", x.count(0), 1);
    }

    private static void tape(Check c) {
        ClockPost x = new ClockPost();
        c.holds(6, "comes behind the tape: how many it has");
        for (int i = 0; i < TEXT.length(); i++) {
            c.due("byte " + i, x.feed(TEXT.charAt(i)), i + 1);
        }
        c.holds(7, "The tape, empty then, is read: how many LETTERS there are");
        c.due("bytes", x.count(7), TEXT.length());
        c.due("letters", new int[] {x.house(), x.count(7), x.count(1), x.count(9)}, 5, 0, 5, 12);
        c.holds(7, "-1000100 less the place of a FAULT");
        c.due("the end", Check.read(x, "c12;b2,3"), -1000108);
        c.due("the house before stays", new int[] {x.count(1), x.count(7), x.kind(4)}, 5, 0, 5);
        c.holds(8, "The number of the latest FAULT");
        c.due("fault 1", x.fault(), 1);
        c.due("fault 2", new int[] {Check.read(x, "c12;b2,0,5;"), x.fault()}, -1000107, 2);
        c.due("fault 3", new int[] {Check.read(x, TEXT + "b1,1,1;d"), x.fault()}, -1000146, 3);
        c.due("none", new int[] {Check.read(x, "c9;e1,1,1;"), x.fault()}, 1, 3);
    }

    private static void firstDay(Check c) {
        ClockPost x = Check.house(TEXT);
        c.holds(9, "n DAYS (1 to 24), an ACT each: who is BEHIND then (bits)");
        c.due("weighs now", x.burden(0), 2 + 2 + 4 + 6 + 7);
        c.due("behind", x.days(1), 31);
        c.due("day, sum, acts", new int[] {x.count(2), x.count(5), x.count(6)}, 1, 21, 1);
        c.due("weighs then", x.burden(0), 3 + 4 + 5 + 6 + 7);
        c.due("two more", new int[] {x.days(2), x.count(2), x.count(5), x.count(6)}, 31, 3, 21 + 25 + 29, 3);
    }

    private static void acts(Check c) {
        ClockPost x = Check.house(TEXT);
        x.days(1);
        c.holds(10, "One is answered: SORROW then");
        c.due("the dun", new int[] {x.answer(1), x.answer(1), x.burden(0)}, 2, STATE, 3 + 5 + 6 + 6);
        c.holds(11, "One is put BEHIND: THICKNESS then");
        c.due("again", new int[] {x.post(1), x.post(1), x.burden(0)}, 12, STATE, 3 + 2 + 5 + 6 + 7);
        c.holds(12, "FEAR is v (0 to 9): what it was");
        c.due("the note", new int[] {x.dread(3, 9), x.dread(3, 8), x.burden(0)}, 6, 9, 25);
        c.holds(13, "The latest ACT is undone: how many can be undone yet");
        c.due("feared as before", new int[] {x.undo(), x.burden(0), x.undo(), x.burden(0)}, 4, 26, 3, 23);
        c.due("not put there", new int[] {x.undo(), x.letter(1, 4), x.count(3)}, 2, 1, 29);
        c.due("not answered", new int[] {x.undo(), x.count(8), x.count(3)}, 1, 0, 31);
        c.due("no day went by", new int[] {x.undo(), x.count(2), x.count(5), x.burden(0), x.undo()}, 0, 0, 0, 21, STATE);
    }

    private static void lettersNow(Check c) {
        ClockPost x = house();
        c.holds(14, "3 whether BEHIND (1, 0), 4 AGE (as it was last, if it is not), 5 what it WEIGHS");
        c.due("bill", Check.letter(x, 0), 2, 3, 5, 1, 1, 3);
        c.due("dun", Check.letter(x, 1), 1, 2, 4, 1, 0, 2);
        c.due("stale", Check.letter(x, 2), 4, 1, 7, 1, 1, 5);
        c.due("note", Check.letter(x, 3), 6, 4, 9, 1, 1, 6);
        c.due("black", Check.letter(x, 4), 3, 2, 1, 1, 1, 7);
        x.answer(0);
        c.due("answered", Check.letter(x, 0), 2, 3, 5, 0, 1, 0);
        c.due("one other less", x.letter(4, 5), 6);
    }

    private static void daysToCome(Check c) {
        ClockPost x = house();
        c.holds(15, "The BURDEN then");
        c.holds(16, "SUM then");
        int sum = 21;
        for (int d = 0; d <= 60; d++) {
            int due = d < 8 ? 23 + 4 * d : 18 + 3 * d;
            c.due("burden " + d, x.burden(d), due);
            c.due("sum " + d, x.sum(d), sum);
            sum += due;
        }
        c.holds(17, "Who is BEHIND");
        c.due("behind", new int[] {x.behind(0), x.behind(60)}, 31, 31);
        x.answer(3);
        c.due("behind without the note", new int[] {x.behind(0), x.behind(60), x.burden(0)}, 23, 23, 16);
    }

    private static void order(Check c) {
        ClockPost x = house();
        c.holds(19, "ORDER: by how much (k = -1), the k-th");
        c.due("dun and stale one", x.order(6, -1), (3 + 2 + 6 + 6) + (4 + 6 + 5));
        c.due("the stale one first", new int[] {x.order(6, 0), x.order(6, 1), x.order(6, 2)}, 2, 1, NONE);
        c.due("none", new int[] {x.order(0, -1), x.order(0, 0), x.order(32, 0)}, 0, NONE, BAD);
    }

    private static void ease(Check c) {
        ClockPost x = house();
        c.holds(21, "EASE: how many (what = 0), which (1)");
        c.due("as it is", new int[] {x.ease(3, 31, 0), x.ease(3, 31, 1)}, 0, 0);
        c.due("the bill", new int[] {x.ease(3, 25, 0), x.ease(3, 25, 1)}, 1, 1);
        c.due("the dun", new int[] {x.ease(3, 24, 0), x.ease(3, 24, 1)}, 1, 2);
        c.due("the stale one", new int[] {x.ease(3, 23, 0), x.ease(3, 23, 1)}, 1, 4);
        c.due("two", new int[] {x.ease(3, 22, 0), x.ease(3, 22, 1)}, 2, 3);
        c.due("all", new int[] {x.ease(3, 0, 0), x.ease(3, 0, 1)}, 5, 31);
    }

    private static void fallsAndHold(Check c) {
        c.holds(18, "FALLS: behind how many (what = 0), which (1); NONE");
        ClockPost x = house();
        c.due("as thick as GAP", new int[] {x.falls(0), x.falls(1)}, NONE, NONE);
        c.holds(20, "HOLD: how many (what = 0), which (1)");
        c.due("it holds", new int[] {x.hold(60, 0), x.hold(60, 1)}, 0, 0);
        Check.read(x, "c5;n1,1,0;n1,1,0;n1,3,1;n1,3,8;");
        c.due("thicker", new int[] {x.falls(0), x.falls(1), x.behind(1)}, 1, 2, 11);
        c.due("one of the thick ones", new int[] {x.hold(1, 0), x.hold(1, 1)}, 1, 4);
        c.due("it falls", new int[] {x.days(1), x.count(8), x.count(4), x.falls(0)}, 11, 1, 5, NONE);
    }

    private static void concluded(Check c) {
        ClockPost x = house();
        Check.lay(x, 2, 0, 23, 27, 31);
        Check.lay(x, 3, 16, 20, 24);
        c.holds(22, "FEARS (what = 0), AGES (1), SORTS (2), n ITEMS of a ROW from i on");
        c.due("the bill", new int[] {x.fits(0, 2, 1, 3, 0), x.fits(0, 2, 1, 3, 1), x.fits(0, 2, 1, 3, 2)}, 1 << 2, 1 << 1, 10);
        c.due("the note", new int[] {x.fits(3, 2, 1, 3, 0), x.fits(3, 2, 1, 3, 2)}, 1 << 6, 1 << 4);
        c.due("none", new int[] {x.fits(0, 3, 0, 3, 0), x.fits(0, 2, 0, 3, 1), x.fits(0, 3, 0, 3, 2)}, 0, 0, 0);
        c.holds(23, "STEALTH, n ITEMS of a ROW from i on");
        c.due("as it is", x.stealth(2, 1, 3), 64);
        c.due("the note, or the black one", x.stealth(3, 0, 3), 24);
        c.due("nobody", x.stealth(2, 0, 3), 0);
    }

    private static void likely(Check c) {
        ClockPost x = house();
        c.holds(24, "LOST (c 0 to 10): above (what = 0), below (1)");
        c.due("any is lost", new int[] {x.lost(22, 1, 0), x.lost(22, 1, 1)}, 100000 - 59049, 100000);
        c.due("all are lost", new int[] {x.lost(0, 5, 0), x.lost(0, 5, 1)}, 1, 32);
        c.due("none is lost", new int[] {x.lost(22, 0, 0), x.lost(22, 0, 1), x.lost(23, 0, 0), x.lost(23, 0, 1)}, 0, 1, 1, 1);
    }

    private static void years(Check c) {
        ClockPost x = house();
        c.holds(25, "YEARS by a SEED (1 to 999999): SUM (what = 0), SORROW (1)");
        // X: 16807, 282475249, 1622650073, 984943658, 1144108930, 470211272, 101027544: the black one answered by the seventh
        c.due("nobody answered", new int[] {x.drawn(0, 1, 0), x.drawn(1, 1, 0), x.drawn(6, 1, 0)}, 21, 44, 219);
        c.due("the black one", new int[] {x.drawn(7, 1, 0), x.drawn(7, 1, 1)}, 219 + 47 - 7, 2);
        // 1457850878, 1458777923, 2007237709: put behind again by the tenth
        c.due("and again", new int[] {x.drawn(9, 1, 0), x.drawn(10, 1, 0)}, 259 + 44 + 35, 338 + 45);
        c.due("nothing changes", new int[] {x.count(2), x.count(3), x.count(5), x.count(8)}, 1, 31, 21, 2);
    }

    private static void images(Check c) {
        ClockPost x = house();
        c.holds(26, "An IMAGE (0, 1) is kept of the HOUSE: 1");
        c.due("kept", new int[] {x.image(1), x.restore(0)}, 1, STATE);
        x.days(24);
        Check.read(x, "c1;n9,1,0;");
        x.days(3);
        c.holds(27, "The HOUSE is as an IMAGE kept it (no ACT can be undone then): 1");
        c.due("restored", new int[] {x.restore(1), x.undo()}, 1, STATE);
        c.due("as kept", Check.counts(x), 0, 5, 1, 31, 12, 21, 0, 0, 2, 12);
        c.due("the dun", Check.letter(x, 1), 1, 2, 4, 1, 0, 2);
    }

    private static void kinds(Check c) {
        ClockPost x = house();
        c.holds(28, "The KIND of a LETTER, as told (1 to 5)");
        int[][] taken = {{1, 1, 0, 0, 0, 0}, {1, 1, 1, 0, 0, 0}, {1, 1, 0, 1, 0, 0}, {1, 0, 0, 0, 1, 0}, {1, 0, 0, 0, 1, 1}};
        for (int i = 0; i < 5; i++) {
            c.due("kind of " + i, x.kind(i), i + 1);
        }
        c.holds(29, "A LETTER is taken as one of a KIND (0 .. 5): its number");
        for (int i = 0; i < 30; i++) {
            c.due(i / 6 + " as " + i % 6, x.as(i / 6, i % 6), taken[i / 6][i % 6] == 1 ? i / 6 : KIND);
        }
    }

    private static void asks(Check c) {
        ClockPost x = house();
        int[] sizes = {3 + 1, -(2 + 2), 1 - 997, 4 - 100, 2 * (2 - 100)};
        int[] marks = {1, 2 * 1, 2 + 1 - 1000, 3 + 96, 4 + 196};
        int[][] ofSizes = {{11, 10, 21, 20}, {12, 11, 10, 24, 21, 20}, {11, 10, 22, 21, 20}, {13, 10}, {14, 13, 10}};
        int[][] ofMarks = {{21, 20}, {24, 21, 20}, {22, 21, 20}, {23, 20, 13, 10}, {23, 20, 14, 13, 10}};
        for (int i = 0; i < 5; i++) {
            c.holds(30, "An ASK (0, 1) of a LETTER");
            c.due("SIZE of " + i, x.ask(i, 0), sizes[i]);
            c.holds(31, "Number i of THE TRACE");
            c.due("trace of SIZE of " + i, Check.trace(x), ofSizes[i]);
            c.due("MARK of " + i, x.ask(i, 1), marks[i]);
            c.due("trace of MARK of " + i, Check.trace(x), ofMarks[i]);
        }
    }

    private static void counts(Check c) {
        ClockPost x = house();
        c.holds(32, "How many: 0 ROWS, 1 LETTERS, 2 the DAY, 3 who is BEHIND (bits)");
        x.row(3, 0, 0);
        x.row(4, 2, 1);
        x.answer(3);
        Check.feed(x, "c1");
        c.due("counts", Check.counts(x), 2, 5, 1, 23, 8, 21, 4, 2, 6, 12);
    }

    private static void status(Check c) {
        ClockPost x = house();
        c.holds(33, "the number of its FINDING; 0: it had none, or there was none");
        c.due("none yet", x.status(), 0);
        c.due("SIZE", new int[] {x.row(0, 0, -1), x.status()}, SIZE, 4);
        c.due("none", new int[] {x.row(0, 0, 1), x.status()}, 1, 0);
        c.due("STORE", new int[] {x.row(1, 1, 1), x.copy(0, 0, 1, 0, 1), x.status()}, 1, STORE, 5);
        c.due("BAD is none", new int[] {x.copy(0, 0, 8, 0, 1), x.status()}, BAD, 5);
        c.due("KIND", new int[] {x.as(0, 5), x.status()}, KIND, 3);
        c.due("PLACE", new int[] {x.stealth(0, 1, 1), x.status()}, PLACE, 2);
        c.due("NULL", new int[] {x.fits(0, 2, 0, 1, 0), x.status()}, NULL, 1);
        c.due("none of the last", new int[] {x.as(0, 1), x.status()}, 0, 0);
    }

    private ThroughTest() {
    }
}
