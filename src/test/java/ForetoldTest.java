/** Promises 15 to 25: burden, sum, behind, falls, order, hold, ease, fits, stealth, lost, drawn. */
public final class ForetoldTest {
    private static final int NONE = ClockPost.NONE, BAD = ClockPost.BAD, STATE = ClockPost.STATE;
    private static final int NULL = -1000011, PLACE = -1000012;
    private static final int MIN = Integer.MIN_VALUE, MAX = Integer.MAX_VALUE;

    public static void main(String[] args) {
        Check check = new Check();
        testNoHouse(check);
        testRefused(check);
        testDaysToCome(check);
        testFalls(check);
        testOrder(check);
        testOrderOfSix(check);
        testOrderAfterFalls(check);
        testHold(check);
        testEase(check);
        testFits(check);
        testFitsRefused(check);
        testStealth(check);
        testLost(check);
        testDrawn(check);
        testDrawnYears(check);
        testNothingChanges(check);
        check.end();
    }

    private static void testNoHouse(Check c) {
        ClockPost x = new ClockPost();
        x.row(0, 0, 1);
        int[] asTold = {x.burden(0), x.sum(0), x.behind(0), x.falls(0), x.order(0, 0), x.hold(1, 0), x.ease(1, 0, 0),
            x.stealth(0, 0, 1), x.lost(0, 0, 0), x.drawn(0, 1, 0)};
        int[] not = {x.burden(-1), x.sum(61), x.behind(-1), x.falls(2), x.order(1, 9), x.hold(0, 0), x.ease(1, 301, 0),
            x.stealth(9, 0, 0), x.lost(-1, 0, 0), x.drawn(0, 0, 0)};
        for (int i = 0; i < asTold.length; i++) {
            c.due("call " + i, asTold[i], STATE);
            c.due("STATE ahead of BAD, call " + i, not[i], STATE);
        }
        c.due("a row that is missing, without a house", x.stealth(5, 0, 1), STATE);
        c.due("fits", x.fits(0, 0, 0, 1, 0), BAD);
    }

    private static void testRefused(Check c) {
        ClockPost x = Check.house("c9;b1,1,1;");
        int[] wrongDays = {-1, 61, MIN, MAX};
        for (int d : wrongDays) {
            c.due("burden " + d, x.burden(d), BAD);
            c.due("sum " + d, x.sum(d), BAD);
            c.due("behind " + d, x.behind(d), BAD);
            c.due("hold " + d, x.hold(d, 0), BAD);
            c.due("ease " + d, x.ease(d, 0, 0), BAD);
            c.due("drawn " + d, x.drawn(d, 1, 0), BAD);
        }
        c.due("hold 0", x.hold(0, 0), BAD);
        c.due("ease 0", x.ease(0, 0, 0), BAD);
        int[] wrongQs = {-1, 301, MIN, MAX};
        for (int q : wrongQs) {
            c.due("ease q " + q, x.ease(1, q, 0), BAD);
            c.due("lost q " + q, x.lost(q, 0, 0), BAD);
        }
        int[] wrongWhats = {-1, 2, MIN, MAX};
        for (int what : wrongWhats) {
            c.due("falls " + what, x.falls(what), BAD);
            c.due("hold what " + what, x.hold(1, what), BAD);
            c.due("ease what " + what, x.ease(1, 0, what), BAD);
            c.due("lost what " + what, x.lost(0, 0, what), BAD);
            c.due("drawn what " + what, x.drawn(0, 1, what), BAD);
        }
        c.due("lost -1 of 10", x.lost(0, -1, 0), BAD);
        c.due("lost 11 of 10", x.lost(0, 11, 0), BAD);
        c.due("seed 0", x.drawn(0, 0, 0), BAD);
        c.due("seed 1000000", x.drawn(0, 1000000, 0), BAD);
        c.due("seed -1", x.drawn(0, -1, 0), BAD);
    }

    private static void testDaysToCome(Check c) {
        ClockPost x = Check.house("c6;b1,2,3;d2,4,1;s3,1,1;n4,1,1;e5,1,1;");
        // thickness 9: the dun falls on the first day
        int[] burdens = {1 + 4 + 3 + 4 + 9, 2 + 4 + 4 + 8, 3 + 5 + 4 + 8};
        for (int d = 0; d < burdens.length; d++) {
            c.due("burden " + d, x.burden(d), burdens[d]);
        }
        c.due("sum 0", x.sum(0), 0);
        c.due("sum 2", x.sum(2), burdens[0] + burdens[1]);
        c.due("behind 0", x.behind(0), 31);
        c.due("behind 1", x.behind(1), 29);
        c.due("burden 8", x.burden(8), 9 + 11 + 4 + 8);
        c.due("burden 9", x.burden(9), 10 + 0 + 4 + 8);
        c.due("burden 60", x.burden(60), 61 + 0 + 4 + 8);
        x.days(5);
        c.due("from now on", x.burden(4), 10 + 0 + 4 + 8);
        c.due("sum from now on", x.sum(0), x.count(5));
    }

    private static void testFalls(Check c) {
        ClockPost x = Check.house("c6;b1,2,3;d2,4,1;s3,4,1;");
        c.due("behind how many days", x.falls(0), 1);
        c.due("which", x.falls(1), 1);
        x.answer(1);
        c.due("nothing", x.falls(0), NONE);
        c.due("none", x.falls(1), NONE);
        x.days(1);
        x.post(1);
        c.due("again", x.falls(0), 1);
        c.due("the oldest", x.falls(1), 2);
        x.answer(0);
        x.answer(1);
        x.answer(2);
        c.due("nothing there", x.falls(0), NONE);
        x = Check.house("c1;");
        c.due("no letters", x.falls(1), NONE);
    }

    private static int[] row(ClockPost x, int letters) {
        int n = Integer.bitCount(letters);
        int[] row = new int[n];
        for (int k = 0; k < n; k++) {
            row[k] = x.order(letters, k);
        }
        return row;
    }

    private static void testOrder(Check c) {
        ClockPost x = Check.house("c30;b5,1,1;b9,1,1;n7,1,1;d1,1,1;");
        c.due("none told", x.order(0, -1), 0);
        c.due("first of none", x.order(0, 0), NONE);
        c.due("one", x.order(4, -1), 5 + 9 + 2);
        c.due("its row", row(x, 4), 2);
        c.due("more than one", x.order(4, 1), NONE);
        // left behind 9 + 7: ahead of the second day 5 + 1, or 9, or 7 ..
        c.due("the heaviest first", row(x, 7), 1, 2, 0);
        c.due("by how much", x.order(7, -1), (5 + 7 + 2) + (6 + 4) + 6);
        c.due("the sixth of three", x.order(7, 5), NONE);
        c.due("k -2", x.order(7, -2), BAD);
        c.due("k 6", x.order(7, 6), BAD);
        c.due("a letter that is none", x.order(16, -1), BAD);
        c.due("least", x.order(MIN, -1), BAD);
        c.due("all bits", x.order(-1, -1), BAD);
        x.answer(1);
        c.due("one that is not behind", x.order(2, -1), BAD);
        c.due("and one that is", x.order(3, 0), BAD);
        x = Check.house("c30;b5,1,1;b5,1,1;b5,1,1;");
        c.due("of several the first by numbers", row(x, 7), 0, 1, 2);
        x = Check.house("c30;n1,1,1;n2,1,1;n2,1,1;");
        c.due("the first of the heaviest", row(x, 7), 1, 2, 0);
        x = Check.house("c30;s9,1,1;b0,1,1;");
        x.days(8);
        c.due("the stale one weighs once more", row(x, 3), 0, 1);
        x.days(1);
        c.due("the stale one weighs nothing", row(x, 3), 1, 0);
        c.due("by nothing", x.order(3, -1), 0);
    }

    /** What is due was reckoned by a program of its own, all 720 rows one by one. */
    private static void testOrderOfSix(Check c) {
        ClockPost x = Check.house("c14;b3,4,6;d1,3,2;s5,2,9;n7,4,8;e2,1,5;d6,1,1;");
        c.due("six", row(x, 63), 5, 3, 2, 1, 0, 4);
        c.due("by how much", x.order(63, -1), 68);
        x = Check.house("c9;b3,4,6;d1,3,2;s5,2,9;n7,4,8;e2,1,5;d6,1,1;");
        c.due("six, some of which fall", row(x, 63), 5, 2, 1, 4, 0, 3);
        c.due("by less", x.order(63, -1), 32);
    }

    private static void testOrderAfterFalls(Check c) {
        ClockPost x = Check.house("c1;b1,9,9;n5,1,1;");
        // the bill falls on the first day, whatever is answered ahead of it but itself
        c.due("row", row(x, 3), 1, 0);
        c.due("that day goes by", x.order(3, -1), 1);
        x = Check.house("c2;b1,9,9;n1,1,1;n1,1,1;b8,1,0;");
        c.due("the told alone are answered", x.order(1, -1), 1 + 1 + 8);
        c.due("what fell is told last", row(x, 15), 3, 1, 2, 0);
        c.due("sum of days", x.order(15, -1), (1 + 1 + 1) + 1);
    }

    private static void testHold(Check c) {
        ClockPost x = Check.house("c6;b1,3,3;d2,3,1;s3,3,1;n1,5,1;");
        c.due("how many", x.hold(1, 0), 2);
        c.due("which, of several the least", x.hold(1, 1), 9);
        c.due("60 days", x.hold(60, 1), 9);
        x.answer(3);
        c.due("one is enough", x.hold(60, 0), 1);
        c.due("the least one", x.hold(60, 1), 1);
        x.answer(1);
        c.due("none", x.hold(60, 0), 0);
        c.due("no bits", x.hold(60, 1), 0);
        x = Check.house("c1;n1,9,1;n1,2,1;n1,3,1;n1,4,1;n1,5,1;n1,6,1;");
        c.due("all", x.hold(30, 0), 6);
        c.due("all bits", x.hold(30, 1), 63);
        x = Check.house("c6;n1,1,1;n1,1,1;n1,5,1;n1,1,1;n1,1,1;");
        c.due("one thick one in place of some thin ones", x.hold(2, 1), 4);
    }

    private static void testEase(Check c) {
        ClockPost x = Check.house("c30;b3,1,0;d4,1,0;n6,1,0;");
        c.due("as it is", x.ease(1, 17, 0), 0);
        c.due("no bits", x.ease(1, 17, 1), 0);
        c.due("the next day", x.ease(2, 17, 0), 1);
        c.due("the least one", x.ease(2, 17, 1), 1);
        c.due("q 16", x.ease(1, 16, 1), 1);
        c.due("q 13", x.ease(1, 13, 1), 2);
        c.due("q 8", x.ease(1, 8, 1), 3);
        c.due("q 2", x.ease(1, 2, 0), 3);
        c.due("q 0", x.ease(1, 0, 1), 7);
        c.due("60 days", x.ease(60, 62, 1), 3);
        c.due("59 days behind the first", x.ease(60, 68, 1), 2);
        c.due("q 300", x.ease(60, 300, 0), 0);
        x = Check.house("c5;b9,5,0;s9,3,0;");
        c.due("it falls then", x.ease(60, 18, 1), 0);
        c.due("one falls, one is stale", x.ease(60, 17, 1), 1);
        x = Check.house("c5;");
        c.due("nothing weighs nothing", x.ease(60, 0, 0), 0);
    }

    private static void testFits(Check c) {
        ClockPost x = Check.house("c30;b3,1,0;d4,1,0;");
        Check.lay(x, 0, 11, 14, 17);
        c.due("fear as it is", x.fits(0, 0, 0, 3, 0), 1 << 3);
        c.due("the other's fear", x.fits(1, 0, 0, 3, 0), 1 << 4);
        c.due("age as it is", x.fits(0, 0, 0, 3, 1), 1);
        c.due("sort as it is", x.fits(0, 0, 0, 3, 2), 1 << 1 | 1 << 3);
        Check.lay(x, 0, 0, 15);
        c.due("fear 7", x.fits(0, 0, 1, 1, 0), 1 << 7);
        c.due("fear 6", x.fits(1, 0, 1, 1, 0), 1 << 6);
        Check.lay(x, 0, 12);
        c.due("a black one, or nothing", x.fits(0, 0, 0, 1, 2), 1 << 5);
        Check.lay(x, 0, 14);
        c.due("a dun", x.fits(0, 0, 0, 1, 2), 1 << 2);
        Check.lay(x, 0, 31, 34, 37);
        c.due("age 20", x.fits(0, 0, 0, 3, 1), 1 << 20);
        Check.lay(x, 0, 32);
        c.due("no age", x.fits(0, 0, 0, 1, 1), 0);
        Check.lay(x, 0, 11, 13, 15);
        c.due("a note", x.fits(0, 0, 0, 3, 2), 1 << 4);
        x.answer(0);
        Check.lay(x, 0, 8, 10);
        c.due("fear of one that is not behind", x.fits(0, 0, 0, 2, 0), 1023);
        c.due("its age", x.fits(0, 0, 0, 2, 1), (1 << 21) - 1);
        c.due("its sort", x.fits(0, 0, 0, 2, 2), 62);
        Check.lay(x, 0, 8, 11);
        c.due("or nothing of them", x.fits(0, 0, 0, 2, 0), 0);
        x = Check.house("c3;b0,3,1;b5,3,1;");
        x.days(0);
        Check.lay(x, 0, 7, 6);
        c.due("the age by which the other stays", x.fits(0, 0, 0, 2, 1), 1 << 2);
        Check.lay(x, 0, 5, 1);
        c.due("the age by which it stays", x.fits(1, 0, 0, 2, 1), 0);
        sixteen(c);
    }

    private static void sixteen(Check c) {
        ClockPost x = Check.house("c30;s9,1,0;");
        Check.lay(x, 1, 7, 9, 10, 11, 12, 13, 14, 15, 16, 17, 0, 0, 0, 0, 0, 0, 0, 1);
        c.due("16 items", x.fits(0, 1, 1, 16, 0), 1 << 9);
        c.due("another item", x.fits(0, 1, 2, 16, 0), 0);
        c.due("status", x.status(), 0);
    }

    private static void testFitsRefused(Check c) {
        ClockPost x = Check.house("c30;b3,1,0;");
        x.row(0, 0, 40);
        c.due("letter -1", x.fits(-1, 0, 0, 1, 0), BAD);
        c.due("letter 1", x.fits(1, 0, 0, 1, 0), BAD);
        c.due("row -1", x.fits(0, -1, 0, 1, 0), BAD);
        c.due("row 8", x.fits(0, 8, 0, 1, 0), BAD);
        c.due("0 items", x.fits(0, 0, 0, 0, 0), BAD);
        c.due("17 items", x.fits(0, 0, 0, 17, 0), BAD);
        c.due("what -1", x.fits(0, 0, 0, 1, -1), BAD);
        c.due("what 3", x.fits(0, 0, 0, 1, 3), BAD);
        c.due("BAD ahead of NULL", x.fits(0, 1, 0, 1, 3), BAD);
        c.due("status stays", x.status(), 0);
        c.due("missing", x.fits(0, 1, -1, 1, 0), NULL);
        c.due("status NULL", x.status(), 1);
        c.due("i -1", x.fits(0, 0, -1, 1, 0), PLACE);
        c.due("i 40", x.fits(0, 0, 40, 1, 0), PLACE);
        c.due("beyond the end", x.fits(0, 0, 25, 16, 0), PLACE);
        c.due("most i", x.fits(0, 0, MAX, 16, 0), PLACE);
        c.due("status PLACE", x.status(), 2);
        c.due("up to the end", x.fits(0, 0, 24, 16, 0), 0);
        c.due("status none", x.status(), 0);
    }

    private static void testStealth(Check c) {
        ClockPost x = Check.house("c30;b3,1,0;n3,1,0;e3,1,0;");
        Check.lay(x, 0, 11, 12, 13);
        c.due("as it is", x.stealth(0, 0, 3), 64);
        Check.lay(x, 0, 7, 7, 8);
        c.due("one of two", x.stealth(0, 0, 1), 3);
        c.due("the bill", x.stealth(0, 0, 2), 1);
        c.due("the note", x.stealth(0, 1, 2), 2);
        Check.lay(x, 0, 6, 9);
        c.due("the black one", x.stealth(0, 0, 1), 4);
        c.due("nobody", x.stealth(0, 1, 1), 0);
        x.answer(0);
        Check.lay(x, 0, 3);
        c.due("those behind alone", x.stealth(0, 0, 1), 6);
        x = Check.house("c30;n0,1,0;n0,1,0;");
        Check.lay(x, 0, 0);
        c.due("any, or none", x.stealth(0, 0, 1), 67);
        x.row(1, 0, 20);
        c.due("row -1", x.stealth(-1, 0, 1), BAD);
        c.due("row 8", x.stealth(8, 0, 1), BAD);
        c.due("0 items", x.stealth(1, 0, 0), BAD);
        c.due("17 items", x.stealth(1, 0, 17), BAD);
        c.due("missing", x.stealth(2, -1, 1), NULL);
        c.due("status NULL", x.status(), 1);
        c.due("i -1", x.stealth(1, -1, 1), PLACE);
        c.due("beyond", x.stealth(1, 5, 16), PLACE);
        c.due("status PLACE", x.status(), 2);
        c.due("16 up to the end", x.stealth(1, 4, 16), 67);
        c.due("status none", x.status(), 0);
        x = Check.house("c2;n5,2,0;b1,2,0;");
        Check.lay(x, 0, 1, 2);
        c.due("one that was answered does not fall", x.stealth(0, 0, 2), 1);
    }

    private static void lost(Check c, ClockPost x, int q, int tenths, int above, int below) {
        c.due("lost " + q + ", " + tenths, new int[] {x.lost(q, tenths, 0), x.lost(q, tenths, 1)}, above, below);
    }

    private static void testLost(Check c) {
        ClockPost x = Check.house("c30;n4,1,0;n2,1,0;");
        lost(c, x, 6, 3, 1, 1);
        lost(c, x, 5, 0, 0, 1);
        lost(c, x, 6, 0, 1, 1);
        lost(c, x, 0, 10, 1, 1);
        lost(c, x, 0, 5, 1, 4);
        lost(c, x, 0, 1, 1, 100);
        lost(c, x, 3, 1, 1, 10);
        lost(c, x, 5, 3, 51, 100);
        lost(c, x, 300, 9, 1, 1);
        x = Check.house("c30;e1,1,0;e1,1,0;");
        lost(c, x, 1, 3, 51, 100);
        lost(c, x, 3, 3, 51, 100);
        lost(c, x, 4, 3, 1, 1);
        x = Check.house("c30;n1,1,0;n1,1,0;n1,1,0;n1,1,0;n1,1,0;n1,1,0;");
        lost(c, x, 0, 1, 1, 1000000);
        lost(c, x, 5, 1, 468559, 1000000);
        x.answer(0);
        lost(c, x, 4, 1, 40951, 100000);
        x = Check.house("c30;");
        lost(c, x, 0, 0, 1, 1);
    }

    private static void testDrawn(Check c) {
        ClockPost x = Check.house("c9;n1,1,9;n2,1,5;");
        x.days(1);
        c.due("0 days: sum", x.drawn(0, 1, 0), 3);
        c.due("0 days: sorrow", x.drawn(0, 1, 1), 0);
        // 16807 by 3 leaves 1, it is odd: letter 1 is put behind, where it is
        c.due("1 day", x.drawn(1, 1, 0), 6);
        // 3 times 16807 is odd, 3 divides it: letter 1 is answered
        c.due("answered ahead of the day", x.drawn(1, 3, 0), 4);
        c.due("sorrow of that", x.drawn(1, 3, 1), 2);
        c.due("letter 0 answered", x.drawn(1, 6, 0), 5);
        c.due("its sorrow", x.drawn(1, 6, 1), 4);
        x.answer(0);
        // 4 times 16807 is even and leaves 1: letter 0 is put behind
        c.due("put behind", x.drawn(1, 4, 0), 6);
        c.due("2 leaves it", x.drawn(1, 2, 0), 5);
        c.due("answered already", x.drawn(1, 6, 1), 4);
        x = Check.house("c9;");
        c.due("no letters", x.drawn(60, 999999, 0), 0);
        c.due("no sorrow", x.drawn(60, 999999, 1), 0);
        x = Check.house("c1;b1,9,9;");
        c.due("one falls", x.drawn(1, 1, 1), 9);
    }

    private static void drawn(Check c, ClockPost x, int n, int seed, int sum, int sorrow) {
        c.due("drawn " + n + ", " + seed, new int[] {x.drawn(n, seed, 0), x.drawn(n, seed, 1)}, sum, sorrow);
    }

    /** What is due was reckoned by a program of its own. */
    private static void testDrawnYears(Check c) {
        ClockPost x = Check.house("c14;b3,4,6;d1,3,2;s5,2,9;n7,4,8;e2,1,5;");
        drawn(c, x, 20, 7, 607, 8);
        drawn(c, x, 60, 9, 1413, 40);
        x = Check.house("c9;b3,4,6;d1,3,2;s5,2,9;n7,4,8;e2,1,5;");
        drawn(c, x, 2, 1, 37, 14);
        drawn(c, x, 3, 1, 54, 14);
        drawn(c, x, 10, 123456, 167, 11);
        drawn(c, x, 60, 999999, 1660, 73);
        drawn(c, x, 60, 1, 2234, 61);
        x = Check.house("c1;b1,1,9;");
        drawn(c, x, 1, 3, 0, 4);
        drawn(c, x, 1, 5, 1, 0);
        drawn(c, x, 5, 3, 6, 4);
    }

    private static int[] all(ClockPost x) {
        int[] all = new int[46];
        for (int i = 0; i < 36; i++) {
            all[i] = x.letter(i / 6, i % 6);
        }
        for (int i = 0; i < 10; i++) {
            all[36 + i] = x.count(i);
        }
        return all;
    }

    private static void testNothingChanges(Check c) {
        ClockPost x = Check.house("c9;b1,5,1;d2,2,2;s3,3,3;n4,4,4;e5,5,5;b6,6,6;");
        x.days(2);
        x.post(0);
        x.row(0, 0, 40);
        int[] before = all(x);
        x.burden(60);
        x.sum(60);
        x.behind(60);
        x.falls(1);
        x.order(x.count(3), -1);
        x.hold(60, 1);
        x.ease(60, 0, 1);
        for (int what = 0; what < 3; what++) {
            x.fits(0, 0, 0, 16, what);
        }
        x.stealth(0, 0, 16);
        x.lost(3, 3, 0);
        x.drawn(60, 9, 0);
        c.due("all of it", all(x), before);
    }
}
