import java.util.function.IntUnaryOperator;

/**
 * Each sentence about what is foretold that names an edge: promises 15 (burden), 16 (sum), 17 (behind), 18 (falls), 19 (order),
 * 20 (hold), 21 (ease), 22 (fits), 23 (stealth), 24 (lost), 25 (drawn).
 */
public final class EdgesOfForetoldTest {
    private static final int NONE = ClockPost.NONE, BAD = ClockPost.BAD, STATE = ClockPost.STATE;
    private static final int NULL = -1000011, PLACE = -1000012;
    private static final int MIN = Integer.MIN_VALUE, MAX = Integer.MAX_VALUE;
    private static final int[] NO_WHATS = {-1, 2, MIN, MAX};
    private static final String AHEAD_OF_BAD = "STATE: no HOUSE (ahead of BAD)";

    public static void main(String[] args) {
        Check check = new Check();
        daysFromNow(check);
        noHouse(check);
        nowAndLast(check);
        beyondTheLastDay(check);
        nothingAnswered(check);
        burdenTogether(check);
        fallsWithoutHouse(check);
        fallsNone(check);
        fallsFirst(check);
        fallsWhat(check);
        orderWithoutHouse(check);
        orderNumbers(check);
        orderBehind(check);
        orderFewer(check);
        orderNoMost(check);
        orderDaysGoBy(check);
        orderAsManyDays(check);
        orderFirstByNumbers(check);
        orderOneAheadOfEachDay(check);
        holdNumbers(check);
        holdFewest(check);
        holdLeast(check);
        holdNothing(check);
        easeNumbers(check);
        easeOrLess(check);
        easeDays(check);
        easeEachDay(check);
        easeFewest(check);
        easeLeast(check);
        fitsRefusals(check);
        fitsPlaces(check);
        fitsItems(check);
        fears(check);
        ages(check);
        sorts(check);
        fitsOfOneThatIsNotBehind(check);
        stealthWithoutHouse(check);
        stealthRefusals(check);
        stealthItems(check);
        stealthAsItIs(check);
        stealthOfThoseBehind(check);
        lostNumbers(check);
        lostTenths(check);
        lostOrLess(check);
        lostLowestTerms(check);
        lostZero(check);
        lostEachByItself(check);
        drawnNumbers(check);
        drawnNoDays(check);
        drawnSteps(check);
        drawnWhich(check);
        drawnIfNotSoAlready(check);
        drawnNoneThere(check);
        drawnThenTheDay(check);
        drawnMost(check);
        check.end(15, 16, 17, 18, 19, 20, 21, 22, 23, 24, 25);
    }

    private static IntUnaryOperator ofDays(ClockPost x, int promise) {
        return promise == 15 ? x::burden : promise == 16 ? x::sum : x::behind;
    }

    private static void daysFromNow(Check c) {
        for (int promise = 15; promise <= 17; promise++) {
            c.holds(promise, "d DAYS from now (0 to 60)");
            IntUnaryOperator call = ofDays(Check.house("c9;b1,1,0;"), promise);
            int[] none = {-1, 61, MIN, MAX};
            for (int d : none) {
                c.due("d = " + d, call.applyAsInt(d), BAD);
            }
            int[] zero = {1, 0, 1};
            int[] sixty = {61, 60 * 61 / 2, 1};
            c.due("0", call.applyAsInt(0), zero[promise - 15]);
            c.due("60", call.applyAsInt(60), sixty[promise - 15]);
        }
    }

    private static void noHouse(Check c) {
        for (int promise = 15; promise <= 17; promise++) {
            c.holds(promise, AHEAD_OF_BAD);
            ClockPost x = new ClockPost();
            IntUnaryOperator call = ofDays(x, promise);
            int[] any = {0, 60, -1, 61, MIN, MAX};
            for (int d : any) {
                c.due("d = " + d, call.applyAsInt(d), STATE);
            }
            Check.read(x, "c9;");
            c.due("a house without letters", call.applyAsInt(60), 0);
            c.due("BAD of it", call.applyAsInt(61), BAD);
        }
    }

    private static void nowAndLast(Check c) {
        c.holds(16, "FORETOLD (nothing changes), nothing answered, d DAYS from now");
        ClockPost x = Check.house("c9;b1,1,0;d2,3,0;n3,6,0;");
        c.due("before a day", new int[] {x.burden(0), x.sum(0), x.behind(0)}, 8, 0, 7);
        c.due("behind one", new int[] {x.burden(1), x.sum(1), x.behind(1)}, 8, 8, 3);
        for (int day = 0; day < 30; day++) {
            int[] foretold = {x.burden(2), x.sum(2), x.behind(2), x.count(2) + 2};
            x.days(1);
            c.due("one day nearer", new int[] {x.burden(1), x.sum(1), x.behind(1), x.count(2) + 1}, foretold);
            c.due("now", new int[] {x.burden(0), x.sum(0), x.behind(0)}, x.burden(0), x.count(5), x.count(3));
        }
    }

    private static void beyondTheLastDay(Check c) {
        c.holds(17, "FORETOLD (nothing changes)");
        ClockPost x = Check.house("c9;s1,1,0;");
        Check.pass(x, 999);
        x.answer(0);
        x.post(0);
        c.due("DAY 999 and 60 more", new int[] {x.burden(8), x.burden(60), x.behind(60)}, 9, 0, 1);
        c.due("sum", x.sum(60) - x.count(5), 9 * 10 / 2);
        c.due("drawn", x.drawn(60, 1, 0) >= x.count(5) ? 1 : 0, 1);
        c.due("it is 999 still", x.count(2), 999);
    }

    private static void nothingAnswered(Check c) {
        c.holds(17, "who is BEHIND then (bits)");
        ClockPost x = Check.house("c30;n1,5,0;n1,5,0;n1,5,0;n1,5,0;n1,5,0;n1,5,0;");
        c.due("all", new int[] {x.behind(0), x.behind(60)}, 63, 63);
        x.answer(3);
        c.due("without one", new int[] {x.behind(0), x.behind(60)}, 55, 55);
        for (int i = 0; i < 6; i++) {
            x.answer(i);
        }
        c.due("nobody", new int[] {x.behind(0), x.behind(60)}, 0, 0);
    }

    private static void burdenTogether(Check c) {
        c.holds(15, "the BURDEN what all BEHIND WEIGHS, together");
        ClockPost x = Check.house("c30;b1,1,0;d2,1,0;s3,1,0;n4,1,0;e5,1,0;n9,1,0;");
        x.answer(5);
        c.due("now", x.burden(0), 1 + 4 + 3 + 4 + 9);
        c.due("behind 8", x.burden(8), 9 + 20 + 11 + 4 + 9);
        c.due("behind 9", x.burden(9), 10 + 22 + 0 + 4 + 9);
    }

    private static void fallsWithoutHouse(Check c) {
        c.holds(18, AHEAD_OF_BAD);
        ClockPost x = new ClockPost();
        c.due("as told", new int[] {x.falls(0), x.falls(1)}, STATE, STATE);
        c.due("not as told", new int[] {x.falls(-1), x.falls(2)}, STATE, STATE);
        Check.read(x, "c1;");
        c.due("a house without letters", x.falls(0), NONE);
    }

    private static void fallsNone(Check c) {
        c.holds(18, "which (1); NONE");
        ClockPost x = Check.house("c9;n1,5,0;n1,4,0;n1,1,0;");
        x.answer(2);
        c.due("as much as GAP", new int[] {x.falls(0), x.falls(1)}, NONE, NONE);
        x.post(2);
        c.due("1 more", new int[] {x.falls(0), x.falls(1)}, 1, 0);
        x.days(1);
        c.due("it fell", new int[] {x.falls(0), x.falls(1)}, NONE, NONE);
    }

    private static void fallsFirst(Check c) {
        c.holds(18, "which (of several that very DAY the one that FALLS first)");
        ClockPost x = Check.house("c1;n1,2,0;n1,4,0;n1,3,0;");
        c.due("the thickest of three that fall", new int[] {x.falls(0), x.falls(1)}, 1, 1);
        x.answer(1);
        c.due("the thickest of two", x.falls(1), 2);
        x = Check.house("c4;n1,3,0;n1,3,0;");
        x.answer(0);
        x.days(1);
        x.post(0);
        c.due("the oldest", x.falls(1), 1);
        x.answer(1);
        x.post(1);
        c.due("the least", x.falls(1), 0);
    }

    private static void fallsWhat(Check c) {
        c.holds(18, "behind how many (what = 0), which (1)");
        ClockPost x = Check.house("c1;n1,1,0;n1,9,0;");
        for (int what : NO_WHATS) {
            c.due("what " + what, x.falls(what), BAD);
        }
        c.due("behind how many", x.falls(0), 1);
        c.due("which", x.falls(1), 1);
    }

    private static int[] row(ClockPost x, int letters) {
        int[] row = new int[Integer.bitCount(letters)];
        for (int k = 0; k < row.length; k++) {
            row[k] = x.order(letters, k);
        }
        return row;
    }

    private static void orderWithoutHouse(Check c) {
        c.holds(19, AHEAD_OF_BAD);
        ClockPost x = new ClockPost();
        c.due("as told", new int[] {x.order(0, -1), x.order(0, 0)}, STATE, STATE);
        c.due("not as told", new int[] {x.order(0, -2), x.order(0, 6), x.order(1, 0), x.order(-1, 0)}, STATE, STATE, STATE, STATE);
        Check.read(x, "c1;");
        c.due("a house without letters", new int[] {x.order(0, -1), x.order(0, 0), x.order(1, 0)}, 0, NONE, BAD);
    }

    private static void orderNumbers(Check c) {
        c.holds(19, "k not -1 to 5, too");
        ClockPost x = Check.house("c30;b1,1,0;b2,1,0;b3,1,0;b4,1,0;b5,1,0;b6,1,0;");
        int[] none = {-2, 6, MIN, MAX};
        for (int k : none) {
            c.due("k " + k, x.order(63, k), BAD);
            c.due("k of none " + k, x.order(0, k), BAD);
        }
        c.due("-1", x.order(63, -1), (1 + 2 + 3 + 4 + 5) + (2 + 3 + 4 + 5) + (3 + 4 + 5) + (4 + 5) + 5);
        c.due("0 to 5", row(x, 63), 5, 4, 3, 2, 1, 0);
    }

    private static void orderBehind(Check c) {
        c.holds(19, "BAD: one that is not BEHIND");
        ClockPost x = Check.house("c30;b1,1,0;b2,1,0;b3,1,0;");
        int[] none = {8, 9, 32, 64, 65, 1 << 30, MIN, -1, MAX};
        for (int letters : none) {
            c.due("letters " + letters, x.order(letters, -1), BAD);
            c.due("first of letters " + letters, x.order(letters, 0), BAD);
        }
        x.answer(1);
        c.due("answered", new int[] {x.order(2, -1), x.order(7, -1), x.order(5, 0)}, BAD, BAD, 2);
    }

    private static void orderFewer(Check c) {
        c.holds(19, "the k-th (0 on; NONE: there are fewer)");
        ClockPost x = Check.house("c30;b1,1,0;b2,1,0;b3,1,0;b4,1,0;b5,1,0;b6,1,0;");
        for (int n = 0; n <= 6; n++) {
            int letters = (1 << n) - 1;
            for (int k = 0; k < 6; k++) {
                c.due("number " + k + " of " + n, x.order(letters, k), k < n ? n - 1 - k : NONE);
            }
        }
        c.due("by how much none", x.order(0, -1), 0);
    }

    private static void orderNoMost(Check c) {
        c.holds(19, "by which SUM grows least (as if there were no most)");
        ClockPost x = Check.house("c30;d0,1,0;d9,1,0;d9,1,0;d9,1,0;d9,1,0;d9,1,0;");
        Check.pass(x, 40);
        c.due("SUM", x.count(5), 9999);
        c.due("by how much", x.order(3, -1), (4 * 2 * 49 + 2 * 40) + 4 * 2 * 50);
        c.due("the heavier first", row(x, 3), 1, 0);
        c.due("all", row(x, 63), 1, 2, 3, 4, 5, 0);
    }

    private static void orderDaysGoBy(Check c) {
        c.holds(19, "(one that FELL ahead of its turn is not answered, that DAY goes by)");
        ClockPost x = Check.house("c2;b1,9,9;b5,1,0;n7,1,0;");
        // the thick one falls on the first day, whatever else is answered ahead of it; the note weighs on both days
        c.due("row", row(x, 3), 1, 0);
        c.due("by both days", x.order(3, -1), (1 + 7) + 7);
        c.due("nothing of it stays", new int[] {x.count(3), x.count(8)}, 7, 0);
    }

    private static void orderAsManyDays(Check c) {
        c.holds(19, "in as many DAYS as there are");
        ClockPost x = Check.house("c30;n1,1,0;n1,1,0;n9,1,0;");
        c.due("one", x.order(1, -1), 10);
        c.due("two", x.order(3, -1), 10 + 9);
        c.due("three", x.order(7, -1), 2 + 1);
    }

    private static void orderFirstByNumbers(Check c) {
        c.holds(19, "of several the first (by numbers)");
        ClockPost x = Check.house("c30;n4,1,0;n4,1,0;n4,1,0;n4,1,0;n4,1,0;n4,1,0;");
        c.due("all the same", row(x, 63), 0, 1, 2, 3, 4, 5);
        c.due("some of them", row(x, 42), 1, 3, 5);
        x = Check.house("c30;n0,1,0;n4,1,0;n0,1,0;n4,1,0;");
        c.due("the first of each", row(x, 15), 1, 3, 0, 2);
    }

    private static void orderOneAheadOfEachDay(Check c) {
        c.holds(19, "one answered ahead of each DAY");
        ClockPost x = Check.house("c30;b5,1,0;s9,1,0;");
        c.due("it does not weigh that day", x.order(2, -1), 5);
        x.days(8);
        c.due("the stale one weighs once more", new int[] {x.order(3, -1), x.order(3, 0)}, 13, 1);
        x.days(1);
        c.due("and then nothing", new int[] {x.order(3, -1), x.order(3, 0)}, 0, 0);
    }

    private static void holdNumbers(Check c) {
        c.holds(20, "HOLD for d (1 to 60)");
        ClockPost x = new ClockPost();
        int[] none = {0, -1, 61, MIN, MAX};
        for (int d : none) {
            c.due("no house, d " + d, x.hold(d, 0), STATE);
        }
        c.due("no house", x.hold(1, 0), STATE);
        c.due("no house, what 2", x.hold(1, 2), STATE);
        Check.read(x, "c1;n1,2,0;n1,1,0;");
        for (int d : none) {
            c.due("d " + d, x.hold(d, 0), BAD);
        }
        for (int what : NO_WHATS) {
            c.due("what " + what, x.hold(1, what), BAD);
        }
        c.due("1", new int[] {x.hold(1, 0), x.hold(1, 1)}, 1, 1);
        c.due("60", new int[] {x.hold(60, 0), x.hold(60, 1)}, 1, 1);
    }

    private static void holdFewest(Check c) {
        c.holds(20, "the fewest LETTERS BEHIND to be answered now so that nothing FALLS in d DAYS: how many");
        ClockPost x = Check.house("c8;n1,2,0;n1,2,0;n1,4,0;n1,2,0;n1,2,0;");
        c.due("one in place of two", new int[] {x.hold(5, 0), x.hold(5, 1)}, 1, 4);
        x.answer(2);
        c.due("as much as GAP", new int[] {x.hold(5, 0), x.hold(5, 1)}, 0, 0);
        x = Check.house("c1;n1,2,0;n1,2,0;n1,2,0;n1,2,0;n1,2,0;n1,2,0;");
        c.due("all", new int[] {x.hold(60, 0), x.hold(60, 1)}, 6, 63);
        x.answer(0);
        c.due("of those behind", new int[] {x.hold(60, 0), x.hold(60, 1)}, 5, 62);
    }

    private static void holdLeast(Check c) {
        c.holds(20, "in d DAYS: how many; which (bits), of several the least");
        ClockPost x = Check.house("c5;n1,1,0;n1,3,0;n1,3,0;");
        c.due("the least that is enough", x.hold(1, 1), 2);
        x = Check.house("c4;n1,3,0;n1,2,0;n1,2,0;n1,3,0;");
        c.due("the least two", new int[] {x.hold(1, 0), x.hold(1, 1)}, 2, 9);
        x = Check.house("c6;n1,3,0;n1,3,0;n1,3,0;n1,3,0;");
        c.due("the least two of all", x.hold(1, 1), 3);
    }

    private static void holdNothing(Check c) {
        c.holds(20, AHEAD_OF_BAD);
        ClockPost x = Check.house("c1;");
        c.due("no letters", new int[] {x.hold(1, 0), x.hold(60, 1)}, 0, 0);
        Check.read(x, "c1;n1,9,0;");
        x.answer(0);
        c.due("nobody behind", new int[] {x.hold(1, 0), x.hold(60, 1)}, 0, 0);
    }

    private static void easeNumbers(Check c) {
        c.holds(21, "EASE for d (1 to 60), q (0 to 300)");
        ClockPost x = new ClockPost();
        int[][] none = {{0, 0, 0}, {-1, 0, 0}, {61, 0, 0}, {MIN, 0, 0}, {MAX, 0, 0}, {1, -1, 0}, {1, 301, 0}, {1, MIN, 0},
            {1, MAX, 0}, {1, 0, -1}, {1, 0, 2}, {1, 0, MIN}, {1, 0, MAX}};
        for (int[] n : none) {
            c.due("no house, d " + n[0] + ", q " + n[1] + ", what " + n[2], x.ease(n[0], n[1], n[2]), STATE);
        }
        c.due("no house", x.ease(1, 0, 0), STATE);
        Check.read(x, "c30;n1,2,0;n9,1,0;");
        for (int[] n : none) {
            c.due("d " + n[0] + ", q " + n[1] + ", what " + n[2], x.ease(n[0], n[1], n[2]), BAD);
        }
        c.due("1, 0", new int[] {x.ease(1, 0, 0), x.ease(1, 0, 1)}, 2, 3);
        c.due("60, 0", new int[] {x.ease(60, 0, 0), x.ease(60, 0, 1)}, 2, 3);
        c.due("60, 300", new int[] {x.ease(60, 300, 0), x.ease(60, 300, 1)}, 0, 0);
    }

    private static void easeOrLess(Check c) {
        c.holds(21, "so that the BURDEN is q or less now");
        ClockPost x = Check.house("c30;n3,1,0;n4,1,0;");
        c.due("q", x.ease(1, 7, 0), 0);
        c.due("1 less", new int[] {x.ease(1, 6, 0), x.ease(1, 6, 1)}, 1, 1);
        c.due("the rest is q", x.ease(1, 4, 1), 1);
        c.due("the rest is 1 more", x.ease(1, 3, 1), 2);
        c.due("nothing is 1 more", x.ease(1, 2, 1), 3);
        x = Check.house("c30;d9,1,0;d9,1,0;d9,1,0;d9,1,0;d9,1,0;d9,1,0;");
        x.days(16);
        c.due("300", new int[] {x.burden(0), x.ease(1, 300, 0), x.ease(1, 299, 0), x.ease(2, 300, 0)}, 300, 0, 1, 1);
    }

    private static void easeDays(Check c) {
        c.holds(21, "and behind each of 1 to d less 1 DAYS");
        ClockPost x = Check.house("c30;b0,1,0;n0,1,0;");
        for (int d = 1; d <= 60; d++) {
            c.due("behind " + (d - 1) + " days it is q", x.ease(d, d - 1, 0), 0);
            c.due("or 1 more", x.ease(d, d - 2 < 0 ? 0 : d - 2, 1), d == 1 ? 0 : 1);
        }
    }

    private static void easeEachDay(Check c) {
        c.holds(21, "behind each of 1 to d less 1 DAYS");
        ClockPost x = Check.house("c30;s9,1,0;");
        c.due("the day that weighs most", x.ease(60, 17, 0), 0);
        c.due("weighs 1 more", x.ease(60, 16, 0), 1);
        c.due("but not before it comes", x.ease(8, 16, 0), 0);
        x = Check.house("c2;n9,9,0;n1,1,0;");
        c.due("now, though it falls", new int[] {x.ease(60, 9, 0), x.ease(60, 9, 1)}, 1, 1);
        c.due("it falls", x.ease(60, 10, 0), 0);
    }

    private static void easeFewest(Check c) {
        c.holds(21, "the fewest LETTERS BEHIND to be answered now so that the BURDEN is q or less");
        ClockPost x = Check.house("c30;n3,1,0;n3,1,0;n6,1,0;n1,1,0;");
        c.due("one in place of two", new int[] {x.ease(1, 7, 0), x.ease(1, 7, 1)}, 1, 4);
        x.answer(2);
        c.due("those behind", new int[] {x.ease(1, 0, 0), x.ease(1, 0, 1)}, 3, 11);
        x = Check.house("c30;e0,1,0;e0,1,0;e0,1,0;n1,1,0;");
        c.due("each less makes black ones lighter", new int[] {x.ease(1, 7, 0), x.ease(1, 7, 1)}, 1, 1);
        c.due("only the last weighs nothing", new int[] {x.ease(1, 0, 0), x.ease(1, 0, 1)}, 3, 11);
    }

    private static void easeLeast(Check c) {
        c.holds(21, "d less 1 DAYS: how many; which (bits), of several the least");
        ClockPost x = Check.house("c30;n1,1,0;n3,1,0;n3,1,0;n3,1,0;");
        c.due("the least that is enough", x.ease(1, 7, 1), 2);
        c.due("the least two", x.ease(1, 4, 1), 6);
        x = Check.house("c30;n3,1,0;n2,1,0;n2,1,0;n3,1,0;");
        c.due("0 and 3, not 1, 2 and another", x.ease(1, 4, 1), 9);
    }

    private static void fitsRefusals(Check c) {
        c.holds(22, "BAD: LETTER, ROW, n, what; NULL; PLACE.");
        ClockPost x = new ClockPost();
        x.row(0, 2, 16);
        c.due("no house", x.fits(0, 0, 0, 1, 0), BAD);
        Check.read(x, "c9;n0,1,0;");
        int[][] none = {{-1, 0, 1, 0}, {1, 0, 1, 0}, {MIN, 0, 1, 0}, {MAX, 0, 1, 0}, {0, -1, 1, 0}, {0, 8, 1, 0}, {0, MIN, 1, 0},
            {0, MAX, 1, 0}, {0, 0, 0, 0}, {0, 0, -1, 0}, {0, 0, 17, 0}, {0, 0, MIN, 0}, {0, 0, MAX, 0}, {0, 0, 1, -1}, {0, 0, 1, 3},
            {0, 0, 1, MIN}, {0, 0, 1, MAX}};
        for (int[] n : none) {
            c.due("letter " + n[0] + ", row " + n[1] + ", n " + n[2] + ", what " + n[3], x.fits(n[0], n[1], 0, n[2], n[3]), BAD);
            c.due("BAD ahead of PLACE", x.fits(n[0], n[1], -1, n[2], n[3]), BAD);
        }
        c.due("BAD ahead of NULL", x.fits(0, 1, 0, 17, 0), BAD);
        c.due("NULL", x.fits(0, 1, 0, 1, 0), NULL);
        c.due("NULL ahead of PLACE", x.fits(0, 1, -1, 1, 0), NULL);
        c.due("PLACE", x.fits(0, 0, -1, 1, 0), PLACE);
    }

    private static void fitsPlaces(Check c) {
        c.holds(22, "2 PLACE (no such place of a ROW)");
        ClockPost x = Check.house("c9;n0,1,0;");
        x.row(0, 2, 18);
        int[][] none = {{-1, 1}, {18, 1}, {3, 16}, {17, 2}, {MIN, 1}, {MAX, 1}, {MAX, 16}, {MIN, 16}};
        for (int[] n : none) {
            c.due("from " + n[0] + " on, " + n[1], x.fits(0, 0, n[0], n[1], 0), PLACE);
        }
        int[][] some = {{0, 1}, {17, 1}, {2, 16}, {16, 2}};
        for (int[] n : some) {
            c.due("from " + n[0] + " on, " + n[1], x.fits(0, 0, n[0], n[1], 0), 1);
        }
        x.row(1, 2, 0);
        c.due("no items", x.fits(0, 1, 0, 1, 0), PLACE);
    }

    private static void fitsItems(Check c) {
        c.holds(22, "A row tells the BURDEN now, behind 1 DAY and so on, n ITEMS (1 to 16)");
        ClockPost x = Check.house("c9;b3,1,0;");
        Check.lay(x, 0, 3, 4, 5, 6, 7, 8, 9, 10, 11, 12, 13, 14, 15, 16, 17, 18, 20);
        c.due("16", x.fits(0, 0, 0, 16, 0), 1 << 3);
        c.due("1", x.fits(0, 0, 0, 1, 0), 1 << 3);
        c.due("16 from 1 on", x.fits(0, 0, 1, 16, 0), 0);
        c.due("15 from 1 on", x.fits(0, 0, 1, 15, 0), 1 << 4);
        x.set(0, 15, 19);
        c.due("the last is another", x.fits(0, 0, 0, 16, 0), 0);
        c.due("but the last", x.fits(0, 0, 0, 15, 0), 1 << 3);
        x.set(0, 0, 4);
        c.due("the first is another", x.fits(0, 0, 0, 15, 0), 0);
    }

    private static void fears(Check c) {
        c.holds(22, "FEARS (0 to 9, bits) of one by which it is so");
        ClockPost x = Check.house("c9;n4,1,0;n1,1,0;");
        for (int fear = -1; fear <= 10; fear++) {
            Check.lay(x, 0, fear + 1, fear + 1);
            c.due("fear " + fear, x.fits(0, 0, 0, 2, 0), fear < 0 || fear > 9 ? 0 : 1 << fear);
        }
        Check.read(x, "c9;s4,1,0;");
        x.days(9);
        Check.lay(x, 0, 0);
        c.due("any", x.fits(0, 0, 0, 1, 0), 1023);
        c.due("its own stays", x.letter(0, 0), 4);
    }

    private static void ages(Check c) {
        c.holds(22, "AGES (0 to 20, bits) of one");
        ClockPost x = Check.house("c9;b4,1,0;n1,1,0;");
        for (int age = -1; age <= 21; age++) {
            Check.lay(x, 0, age + 5, age + 6);
            c.due("age " + age, x.fits(0, 0, 0, 2, 1), age < 0 || age > 20 ? 0 : 1 << age);
        }
        c.due("any", x.fits(1, 0, 0, 1, 1), 0);
        Check.lay(x, 0, 5, 6);
        c.due("of the note, any", x.fits(1, 0, 0, 2, 1), (1 << 21) - 1);
        Check.pass(x, 30);
        Check.lay(x, 0, 25);
        c.due("it is older", x.fits(0, 0, 0, 1, 1), 1 << 20);
        c.due("its own stays", x.letter(0, 4), 30);
    }

    private static void sorts(Check c) {
        c.holds(22, "SORTS: KINDS (bits 1 to 5) of one");
        ClockPost x = Check.house("c30;b3,1,0;n0,1,0;n0,1,0;");
        Check.lay(x, 0, 3, 4);
        c.due("a bill, or stale", x.fits(0, 0, 0, 2, 2), 1 << 1 | 1 << 3);
        Check.lay(x, 0, 6, 8);
        c.due("a dun", x.fits(0, 0, 0, 2, 2), 1 << 2);
        Check.lay(x, 0, 3, 3);
        c.due("a note", x.fits(0, 0, 0, 2, 2), 1 << 4);
        Check.lay(x, 0, 5, 5);
        c.due("a black one", x.fits(0, 0, 0, 2, 2), 1 << 5);
        Check.lay(x, 0, 3);
        c.due("three", x.fits(0, 0, 0, 1, 2), 1 << 1 | 1 << 3 | 1 << 4);
        x.days(9);
        Check.lay(x, 0, 0);
        c.due("stale", x.fits(0, 0, 0, 1, 2), 1 << 3);
        c.due("its own stays", x.kind(0), 1);
    }

    private static void fitsOfOneThatIsNotBehind(Check c) {
        c.holds(22, "of one by which it is so");
        ClockPost x = Check.house("c30;b3,1,0;n2,1,0;");
        x.answer(0);
        Check.lay(x, 0, 2, 2, 3);
        c.due("all", new int[] {x.fits(0, 0, 0, 2, 0), x.fits(0, 0, 0, 2, 1), x.fits(0, 0, 0, 2, 2)}, 1023, (1 << 21) - 1, 62);
        c.due("none", new int[] {x.fits(0, 0, 0, 3, 0), x.fits(0, 0, 0, 3, 1), x.fits(0, 0, 0, 3, 2)}, 0, 0, 0);
    }

    private static void stealthWithoutHouse(Check c) {
        c.holds(23, AHEAD_OF_BAD);
        ClockPost x = new ClockPost();
        x.row(0, 2, 3);
        c.due("as told", x.stealth(0, 0, 1), STATE);
        c.due("ahead of BAD", new int[] {x.stealth(8, 0, 1), x.stealth(0, 0, 0), x.stealth(0, 0, 17)}, STATE, STATE, STATE);
        c.due("ahead of NULL, PLACE", new int[] {x.stealth(1, 0, 1), x.stealth(0, 3, 1)}, STATE, STATE);
        Check.read(x, "c9;");
        c.due("a house without letters", x.stealth(0, 0, 3), 64);
    }

    private static void stealthRefusals(Check c) {
        c.holds(23, "BAD: ROW, n; STATE");
        ClockPost x = Check.house("c9;n0,1,0;");
        x.row(0, 2, 18);
        int[][] none = {{-1, 1}, {8, 1}, {MIN, 1}, {MAX, 1}, {0, 0}, {0, -1}, {0, 17}, {0, MIN}, {0, MAX}};
        for (int[] n : none) {
            c.due("row " + n[0] + ", n " + n[1], x.stealth(n[0], 0, n[1]), BAD);
            c.due("ahead of PLACE", x.stealth(n[0], -1, n[1]), BAD);
        }
        c.due("BAD ahead of NULL", x.stealth(1, 0, 17), BAD);
        c.due("NULL ahead of PLACE", x.stealth(1, -1, 1), NULL);
        int[][] places = {{-1, 1}, {18, 1}, {3, 16}, {17, 2}, {MIN, 1}, {MAX, 16}};
        for (int[] n : places) {
            c.due("from " + n[0] + " on, " + n[1], x.stealth(0, n[0], n[1]), PLACE);
        }
        c.due("up to the end", new int[] {x.stealth(0, 2, 16), x.stealth(0, 17, 1)}, 65, 65);
    }

    private static void stealthItems(Check c) {
        c.holds(23, "n ITEMS (1 to 16)");
        ClockPost x = Check.house("c9;b3,1,0;b0,1,0;");
        Check.lay(x, 0, 3, 4, 5, 6, 7, 8, 9, 10, 11, 12, 13, 14, 15, 16, 17, 18);
        c.due("16", x.stealth(0, 0, 16), 2);
        x.set(0, 15, 33);
        c.due("the last is another", x.stealth(0, 0, 16), 0);
        c.due("but the last", x.stealth(0, 0, 15), 2);
        c.due("1, that is so as it is, too", x.stealth(0, 0, 1), 66);
    }

    private static void stealthAsItIs(Check c) {
        c.holds(23, "makes it so; 64 more, if it is so as it is");
        ClockPost x = Check.house("c9;n0,1,0;n0,1,0;n0,1,0;n0,1,0;n0,1,0;n0,1,0;");
        x.row(0, 0, 2);
        c.due("any, or none", x.stealth(0, 0, 2), 127);
        x.dread(5, 3);
        c.due("one", x.stealth(0, 0, 2), 32);
        x.set(0, 1, 3);
        c.due("nobody", x.stealth(0, 0, 2), 0);
        x.set(0, 0, 3);
        c.due("none, or one of no fear", x.stealth(0, 0, 2), 64 + 31);
        x.dread(0, 1);
        c.due("nobody again", x.stealth(0, 0, 2), 1);
    }

    private static void stealthOfThoseBehind(Check c) {
        c.holds(23, "STEALTH: LETTERS BEHIND (bits), one of which, if it is not BEHIND");
        ClockPost x = Check.house("c9;n0,1,0;n0,1,0;e0,1,0;");
        x.answer(0);
        Check.lay(x, 0, 1);
        c.due("as it is", x.stealth(0, 0, 1), 64);
        Check.lay(x, 0, 0);
        c.due("the black one, or the other that it is with", x.stealth(0, 0, 1), 6);
        x.answer(1);
        x.answer(2);
        c.due("nobody behind", x.stealth(0, 0, 1), 64);
        Check.read(x, "c4;n3,2,0;n5,3,0;");
        Check.lay(x, 0, 3, 3);
        c.due("it does not fall", x.stealth(0, 0, 2), 2);
        Check.lay(x, 0, 8, 3);
        c.due("it falls", x.stealth(0, 0, 2), 64);
        Check.lay(x, 0, 5, 5);
        c.due("the other does not, either", x.stealth(0, 0, 2), 1);
    }

    private static void lost(Check c, ClockPost x, int q, int tenths, int above, int below) {
        c.due("lost " + q + ", " + tenths, new int[] {x.lost(q, tenths, 0), x.lost(q, tenths, 1)}, above, below);
    }

    private static void lostNumbers(Check c) {
        c.holds(24, "LOST (c 0 to 10): above (what = 0), below (1)");
        ClockPost x = new ClockPost();
        int[][] none = {{-1, 0, 0}, {301, 0, 0}, {MIN, 0, 0}, {MAX, 0, 0}, {0, -1, 0}, {0, 11, 0}, {0, MIN, 0}, {0, MAX, 0},
            {0, 0, -1}, {0, 0, 2}, {0, 0, MIN}, {0, 0, MAX}};
        c.due("no house", x.lost(0, 0, 0), STATE);
        for (int[] n : none) {
            c.due("no house ahead of BAD", x.lost(n[0], n[1], n[2]), STATE);
        }
        Check.read(x, "c9;n0,1,0;");
        for (int[] n : none) {
            c.due("q " + n[0] + ", c " + n[1] + ", what " + n[2], x.lost(n[0], n[1], n[2]), BAD);
        }
        lost(c, x, 0, 0, 1, 1);
        lost(c, x, 300, 10, 1, 1);
    }

    private static void lostTenths(Check c) {
        c.holds(24, "is not there now by c of 10");
        ClockPost x = Check.house("c9;n1,1,0;");
        int[][] due = {{0, 1}, {1, 10}, {1, 5}, {3, 10}, {2, 5}, {1, 2}, {3, 5}, {7, 10}, {4, 5}, {9, 10}, {1, 1}};
        for (int tenths = 0; tenths <= 10; tenths++) {
            lost(c, x, 0, tenths, due[tenths][0], due[tenths][1]);
            lost(c, x, 1, tenths, 1, 1);
        }
    }

    private static void lostOrLess(Check c) {
        c.holds(24, "that the BURDEN is q (0 to 300) or less");
        ClockPost x = Check.house("c9;n3,1,0;n5,1,0;");
        lost(c, x, 8, 0, 1, 1);
        lost(c, x, 7, 0, 0, 1);
        lost(c, x, 8, 5, 1, 1);
        lost(c, x, 7, 5, 3, 4);
        lost(c, x, 5, 5, 3, 4);
        lost(c, x, 4, 5, 1, 2);
        lost(c, x, 3, 5, 1, 2);
        lost(c, x, 2, 5, 1, 4);
        x = Check.house("c30;d9,1,0;d9,1,0;d9,1,0;d9,1,0;d9,1,0;d9,1,0;");
        x.days(16);
        lost(c, x, 300, 0, 1, 1);
        lost(c, x, 299, 0, 0, 1);
    }

    private static void lostLowestTerms(Check c) {
        c.holds(24, "fractions, told as two numbers in lowest terms");
        ClockPost x = Check.house("c9;n1,1,0;n1,1,0;n1,1,0;n1,1,0;n1,1,0;n1,1,0;");
        lost(c, x, 0, 1, 1, 1000000);
        lost(c, x, 5, 9, 999999, 1000000);
        lost(c, x, 0, 5, 1, 64);
        lost(c, x, 5, 5, 63, 64);
        lost(c, x, 0, 2, 1, 15625);
        lost(c, x, 6, 7, 1, 1);
        lost(c, x, 3, 5, 21, 32);
        x.answer(0);
        lost(c, x, 0, 4, 32, 3125);
    }

    private static void lostZero(Check c) {
        c.holds(24, "(0 is 0 by 1)");
        ClockPost x = Check.house("c9;n5,1,0;n5,1,0;n5,1,0;n5,1,0;n5,1,0;n5,1,0;");
        lost(c, x, 29, 0, 0, 1);
        lost(c, x, 0, 0, 0, 1);
        x = Check.house("c9;n5,1,0;");
        lost(c, x, 4, 0, 0, 1);
        x = Check.house("c9;");
        lost(c, x, 0, 10, 1, 1);
    }

    private static void lostEachByItself(Check c) {
        c.holds(24, "each LETTER BEHIND is not there now by c of 10, each by itself");
        ClockPost x = Check.house("c9;e1,1,0;e1,1,0;n0,1,0;");
        // all three weigh 6; one black one and the note 2; both black ones 4
        lost(c, x, 6, 0, 1, 1);
        lost(c, x, 5, 1, 271, 1000);
        lost(c, x, 4, 1, 271, 1000);
        lost(c, x, 3, 1, 19, 100);
        lost(c, x, 0, 1, 1, 100);
        x.answer(2);
        lost(c, x, 3, 1, 19, 100);
        lost(c, x, 0, 1, 1, 100);
        x.answer(0);
        x.answer(1);
        lost(c, x, 0, 0, 1, 1);
    }

    private static void drawnNumbers(Check c) {
        c.holds(25, "YEARS by a SEED (1 to 999999): SUM (what = 0), SORROW (1)");
        ClockPost x = new ClockPost();
        int[][] none = {{-1, 1, 0}, {61, 1, 0}, {MIN, 1, 0}, {MAX, 1, 0}, {0, 0, 0}, {0, -1, 0}, {0, 1000000, 0}, {0, MIN, 0},
            {0, MAX, 0}, {0, 1, -1}, {0, 1, 2}, {0, 1, MIN}, {0, 1, MAX}};
        c.due("no house", x.drawn(0, 1, 0), STATE);
        for (int[] n : none) {
            c.due("no house ahead of BAD", x.drawn(n[0], n[1], n[2]), STATE);
        }
        Check.read(x, "c9;n1,1,9;");
        for (int[] n : none) {
            c.due("n " + n[0] + ", seed " + n[1] + ", what " + n[2], x.drawn(n[0], n[1], n[2]), BAD);
        }
        c.due("1", new int[] {x.drawn(1, 1, 0), x.drawn(1, 1, 1)}, 1, 0);
        c.due("999999", new int[] {x.drawn(1, 999999, 0), x.drawn(1, 999999, 1)}, 1, 0);
    }

    private static void drawnNoDays(Check c) {
        c.holds(25, "YEARS of n DAYS (0 to 60) by a SEED");
        ClockPost x = Check.house("c9;n1,1,9;n1,9,8;");
        x.days(3);
        c.due("0", new int[] {x.drawn(0, 3, 0), x.drawn(0, 3, 1)}, x.count(5), x.count(8));
        Check.read(x, "c9;n0,1,0;b1,1,0;");
        x.answer(1);
        c.due("60", new int[] {x.drawn(60, 1, 0), x.drawn(60, 1, 1)}, years(60, 1));
    }

    /** {SUM, SORROW} of a HOUSE of two, reckoned apart: a note of no FEAR, a bill of FEAR 1, answered; they hold nothing. */
    private static int[] years(int days, int seed) {
        long x = seed;
        boolean there = false;
        int age = 0;
        int sum = 0;
        for (int t = 0; t < days; t++) {
            x = x * 16807 % 2147483647;
            if (x % 2 == 1 && x % 3 == 0) {
                there = false;
            } else if (x % 2 == 1 && x % 3 == 1 && !there) {
                there = true;
                age = 0;
            }
            sum += there ? 1 + age : 0;
            age += there ? 1 : 0;
        }
        return new int[] {sum, 0};
    }

    /** What X is behind one step, and more: reckoned apart. */
    private static void drawnSteps(Check c) {
        c.holds(25, "ahead of each X becomes the rest of (X times 16807) by 2147483647");
        ClockPost x = Check.house("c9;n1,1,9;");
        // 127773: 2147480811; 127774: 13971; 999997: 1774564050; 3 divides all of them
        int[] answered = {3, 127773, 127774, 999997};
        for (int seed : answered) {
            c.due("answered by " + seed, new int[] {x.drawn(1, seed, 0), x.drawn(1, seed, 1)}, 0, 4);
        }
        x.answer(0);
        // 200000: 1213916353, that leaves 1, as the SEED does not
        c.due("put behind by 200000", new int[] {x.drawn(1, 200000, 0), x.drawn(1, 200000, 1)}, 1, 4);
        // 999999: 1774597664 leaves 2, 1410049312 leaves 1, 1216742139 leaves 0
        c.due("day 1", new int[] {x.drawn(1, 999999, 0), x.drawn(1, 999999, 1)}, 0, 4);
        c.due("day 2", new int[] {x.drawn(2, 999999, 0), x.drawn(2, 999999, 1)}, 1, 4);
        c.due("day 3", new int[] {x.drawn(3, 999999, 0), x.drawn(3, 999999, 1)}, 1, 8);
    }

    private static void drawnWhich(Check c) {
        c.holds(25, "the LETTER that is the rest of X by how many there are is answered, if 3 divides X");
        ClockPost x = Check.house("c9;n1,1,2;n2,1,4;");
        // 6: 100842, even; 3: 50421, odd
        c.due("letter 0", new int[] {x.drawn(1, 6, 0), x.drawn(1, 6, 1)}, 2, 1);
        c.due("letter 1", new int[] {x.drawn(1, 3, 0), x.drawn(1, 3, 1)}, 1, 2);
        x.answer(0);
        c.due("letter 1 of two, one of which is behind", new int[] {x.drawn(1, 3, 0), x.drawn(1, 3, 1)}, 0, 3);
        Check.read(x, "c30;n0,1,2;n0,1,4;n0,1,6;n0,1,8;n0,1,0;");
        c.due("2 of five", x.drawn(1, 6, 1), 3);
        c.due("3 of five", x.drawn(1, 9, 1), 4);
        c.due("1 of five", x.drawn(1, 3, 1), 2);
    }

    private static void drawnIfNotSoAlready(Check c) {
        c.holds(25, "and put BEHIND, if X by 3 leaves 1 (if it is not so already");
        ClockPost x = Check.house("c9;b1,1,9;");
        x.days(5);
        c.due("it is: AGE stays", x.drawn(1, 1, 0) - x.count(5), 1 + 5);
        x.answer(0);
        c.due("it is not: AGE 0", x.drawn(1, 1, 0) - x.count(5), 1);
        c.due("2 leaves it", x.drawn(1, 2, 0) - x.count(5), 0);
        c.due("answered already: SORROW stays", x.drawn(1, 3, 1), 4);
    }

    private static void drawnNoneThere(Check c) {
        c.holds(25, "none there: nothing");
        ClockPost x = Check.house("c9;");
        c.due("no letters", new int[] {x.drawn(60, 1, 0), x.drawn(60, 3, 1), x.drawn(0, 999999, 0)}, 0, 0, 0);
        Check.read(x, "c9;n7,1,5;");
        x.answer(0);
        c.due("nobody behind is not none", x.drawn(1, 1, 0), 7);
    }

    private static void drawnThenTheDay(Check c) {
        c.holds(25, "then the DAY: SUM then; SORROW then");
        ClockPost x = Check.house("c4;n7,3,4;n1,3,9;");
        // 3 answers letter 1 ahead of the day, so that nothing falls; 2 answers nobody, so that letter 0 falls
        c.due("answered, nothing falls", new int[] {x.drawn(1, 3, 0), x.drawn(1, 3, 1)}, 7, 4);
        c.due("falls", new int[] {x.drawn(1, 2, 0), x.drawn(1, 2, 1)}, 8, 4);
        c.due("nothing changes", new int[] {x.count(2), x.count(3), x.count(5), x.count(8)}, 0, 3, 0, 0);
    }

    private static void drawnMost(Check c) {
        c.holds(25, "SUM is the BURDEN more (9999 at most)");
        ClockPost x = Check.house("c30;d9,1,0;d9,1,0;d9,1,0;d9,1,0;d9,1,0;d9,1,0;");
        x.days(24);
        x.days(9);
        c.due("SUM", x.count(5), 9900);
        c.due("the most", new int[] {x.drawn(0, 2, 0), x.drawn(1, 2, 0), x.drawn(60, 2, 0)}, 9900, 9999, 9999);
    }
}
