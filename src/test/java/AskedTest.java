/** Promises 28 (kind), 29 (as), 30 (ask), 31 (trace), 32 (count), 33 (status of as). */
public final class AskedTest {
    private static final int NONE = ClockPost.NONE, BAD = ClockPost.BAD, KIND = -1000013;
    private static final String ONE_OF_EACH = "c30;b1,2,0;d1,3,0;s1,4,0;n1,5,0;e1,6,0;";

    public static void main(String[] args) {
        Check check = new Check();
        testKinds(check);
        testAs(check);
        testSize(check);
        testMark(check);
        testAge(check);
        testAskRefused(check);
        testCount(check);
        check.end();
    }

    private static void testKinds(Check c) {
        ClockPost x = Check.house(ONE_OF_EACH);
        for (int i = 0; i < 5; i++) {
            c.due("kind of " + i, x.kind(i), i + 1);
        }
        x.answer(4);
        c.due("of one that is not behind", x.kind(4), 5);
        c.due("-1", x.kind(-1), BAD);
        c.due("5", x.kind(5), BAD);
    }

    private static void testAs(Check c) {
        ClockPost x = Check.house(ONE_OF_EACH);
        boolean[][] is = {
            {true, true, false, false, false, false},
            {true, true, true, false, false, false},
            {true, true, false, true, false, false},
            {true, false, false, false, true, false},
            {true, false, false, false, true, true},
        };
        for (int i = 0; i < 5; i++) {
            for (int kind = 0; kind < 6; kind++) {
                c.due("as " + i + ", " + kind, x.as(i, kind), is[i][kind] ? i : KIND);
                c.due("status of it", x.status(), is[i][kind] ? 0 : 3);
            }
        }
        x.as(0, 5);
        c.due("letter -1", x.as(-1, 0), BAD);
        c.due("letter 5", x.as(5, 0), BAD);
        c.due("kind -1", x.as(0, -1), BAD);
        c.due("kind 6", x.as(0, 6), BAD);
        c.due("BAD leaves the status", x.status(), 3);
    }

    private static void ask(Check c, ClockPost x, int letter, int what, int due, int... bodies) {
        c.due("ask " + letter + ", " + what, x.ask(letter, what), due);
        c.due("its trace", Check.trace(x), bodies);
    }

    private static void testSize(Check c) {
        ClockPost x = Check.house(ONE_OF_EACH);
        ask(c, x, 0, 0, 2 + 0, 11, 10, 21, 20);
        ask(c, x, 1, 0, -(3 + 2 * 1), 12, 11, 10, 24, 21, 20);
        ask(c, x, 2, 0, 4 + 2 - 1000, 11, 10, 22, 21, 20);
        ask(c, x, 3, 0, 5 - 100, 13, 10);
        ask(c, x, 4, 0, 2 * (6 - 100), 14, 13, 10);
    }

    private static void testMark(Check c) {
        ClockPost x = Check.house(ONE_OF_EACH);
        ask(c, x, 0, 1, 0, 21, 20);
        ask(c, x, 1, 1, 2 * 1, 24, 21, 20);
        ask(c, x, 2, 1, 2 - 1000, 22, 21, 20);
        ask(c, x, 3, 1, 3 - (5 - 100), 23, 20, 13, 10);
        ask(c, x, 4, 1, 4 - 2 * (6 - 100), 23, 20, 14, 13, 10);
    }

    private static void testAge(Check c) {
        ClockPost x = Check.house(ONE_OF_EACH);
        x.days(7);
        x.answer(1);
        x.days(1);
        ask(c, x, 0, 1, 0 + 8, 21, 20);
        ask(c, x, 1, 1, 2 * (1 + 7), 24, 21, 20);
        ask(c, x, 1, 0, -(3 + 2 * (1 + 7)), 12, 11, 10, 24, 21, 20);
        ask(c, x, 2, 0, 4 + 2 + 8 - 1000, 11, 10, 22, 21, 20);
        ask(c, x, 4, 0, 2 * (6 - 100), 14, 13, 10);
    }

    private static void testAskRefused(Check c) {
        ClockPost x = Check.house(ONE_OF_EACH);
        x.ask(3, 1);
        c.due("letter -1", x.ask(-1, 0), BAD);
        c.due("letter 5", x.ask(5, 0), BAD);
        c.due("what -1", x.ask(0, -1), BAD);
        c.due("what 2", x.ask(0, 2), BAD);
        c.due("the trace stays", Check.trace(x), 23, 20, 13, 10);
        c.due("-1", x.trace(-1), NONE);
        c.due("behind the last", x.trace(4), NONE);
        c.due("15", x.trace(15), NONE);
        c.due("16", x.trace(16), NONE);
        c.due("least", x.trace(Integer.MIN_VALUE), NONE);
        c.due("most", x.trace(Integer.MAX_VALUE), NONE);
        ask(c, x, 3, 0, -95, 13, 10);
    }

    private static void testCount(Check c) {
        ClockPost x = Check.house("c8;b1,2,4;d1,3,9;n1,9,3;");
        x.row(0, 0, 0);
        x.row(5, 0, 3);
        x.days(2);
        x.answer(0);
        Check.feed(x, "abc");
        int[] counts = new int[10];
        for (int what = 0; what < 10; what++) {
            counts[what] = x.count(what);
        }
        // the note falls on the first day
        c.due("counts", counts, 2, 3, 2, 2, 3, (1 + 2 + 1) + (2 + 4), 3, 3, 3 + 2, 8);
        c.due("-1", x.count(-1), BAD);
        c.due("10", x.count(10), BAD);
        c.due("most", x.count(Integer.MAX_VALUE), BAD);
    }
}
