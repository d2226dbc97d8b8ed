/** Promises 2 (row), 3 (set), 4 (copy), 5 (drop) and what 32 (count) and 33 (status) tell of them. */
public final class RowsTest {
    private static final int BAD = ClockPost.BAD, NULL = -1000011, PLACE = -1000012, SIZE = -1000014, STORE = -1000015;
    private static final int MIN = Integer.MIN_VALUE, MAX = Integer.MAX_VALUE;

    public static void main(String[] args) {
        Check check = new Check();
        testRow(check);
        testSet(check);
        testCopy(check);
        testCopyRefused(check);
        testDrop(check);
        testStatus(check);
        check.end();
    }

    private static void testRow(Check c) {
        ClockPost x = new ClockPost();
        c.due("row 0 items", x.row(0, 0, 0), 0);
        c.due("row 40 items", x.row(7, 2, 40), 40);
        c.due("count of rows", x.count(0), 2);
        c.due("row -1", x.row(-1, 0, 1), BAD);
        c.due("row 8", x.row(8, 0, 1), BAD);
        c.due("lane -1", x.row(1, -1, 1), BAD);
        c.due("lane 3", x.row(1, 3, 1), BAD);
        c.due("41 items", x.row(1, 0, 41), BAD);
        c.due("most items", x.row(1, 0, MAX), BAD);
        c.due("-1 items", x.row(1, 0, -1), SIZE);
        c.due("least items", x.row(1, 0, MIN), SIZE);
        c.due("BAD ahead of SIZE", x.row(1, 3, -1), BAD);
        c.due("refused rows are missing", x.set(1, 0, 1), NULL);
        c.due("count after refusals", x.count(0), 2);
        x.set(7, 39, 5);
        c.due("a refused row leaves what is there", x.row(7, 2, -1), SIZE);
        x.row(0, 2, 1);
        x.copy(7, 39, 0, 0, 1);
        c.due("item that stayed", x.drop(0) + x.set(7, 39, 6), 7);
        c.due("in place of what is there", x.row(7, 2, 3), 3);
        c.due("its end is nearer", x.set(7, 3, 1), PLACE);
        c.due("still one row", x.count(0), 1);
    }

    private static void testSet(Check c) {
        ClockPost x = new ClockPost();
        x.row(0, 0, 2);
        x.row(1, 1, 2);
        x.row(2, 2, 2);
        int[] values = {0, 1, -1, 127, 128, 255, 256, 32767, 32768, 65535, 65536, MAX, MIN, -129, -32769};
        for (int v : values) {
            c.due("bytes " + v, x.set(0, 1, v), (byte) v);
            c.due("shorts " + v, x.set(1, 1, v), (short) v);
            c.due("ints " + v, x.set(2, 1, v), v);
        }
        c.due("row -1", x.set(-1, 0, 0), BAD);
        c.due("row 8", x.set(8, 0, 0), BAD);
        c.due("missing", x.set(3, 0, 0), NULL);
        c.due("missing ahead of place", x.set(3, -1, 0), NULL);
        c.due("place -1", x.set(0, -1, 0), PLACE);
        c.due("place 2", x.set(0, 2, 0), PLACE);
        c.due("least place", x.set(0, MIN, 0), PLACE);
        c.due("most place", x.set(0, MAX, 0), PLACE);
        x.row(4, 0, 0);
        c.due("no place at all", x.set(4, 0, 0), PLACE);
    }

    /** Who reads a ROW back: stealth of a HOUSE without LETTERS finds 64 where all ITEMS are 0. */
    private static boolean isZero(ClockPost x, int row, int i) {
        return x.stealth(row, i, 1) == 64;
    }

    private static void testCopy(Check c) {
        ClockPost x = Check.house("c1;");
        x.row(0, 2, 6);
        c.due("items are 0 at first", isZero(x, 0, 0) ? 1 : 0, 1);
        x.set(0, 2, 9);
        c.due("overlap to the right", x.copy(0, 0, 0, 1, 4), 4);
        c.due("moved", zeros(x, 0, 6), 1, 1, 1, 0, 1, 1);
        c.due("overlap to the left", x.copy(0, 2, 0, 0, 4), 4);
        c.due("moved back", zeros(x, 0, 6), 1, 0, 1, 1, 1, 1);
        x.row(1, 2, 3);
        c.due("between rows", x.copy(0, 1, 1, 2, 1), 1);
        c.due("there", zeros(x, 1, 3), 1, 1, 0);
        c.due("none at the ends", x.copy(0, 6, 1, 3, 0), 0);
        c.due("all of it", x.copy(1, 0, 0, 3, 3), 3);
        c.due("there, too", zeros(x, 0, 6), 1, 0, 1, 1, 1, 0);
        x.row(0, 2, 6);
        c.due("a row anew is 0 again", zeros(x, 0, 6), 1, 1, 1, 1, 1, 1);
    }

    private static int[] zeros(ClockPost x, int row, int n) {
        int[] zeros = new int[n];
        for (int i = 0; i < n; i++) {
            zeros[i] = isZero(x, row, i) ? 1 : 0;
        }
        return zeros;
    }

    private static void testCopyRefused(Check c) {
        ClockPost x = Check.house("c1;");
        x.row(0, 2, 4);
        x.row(1, 2, 2);
        x.row(2, 1, 4);
        x.set(0, 0, 1);
        c.due("row -1", x.copy(-1, 0, 0, 0, 1), BAD);
        c.due("row 8", x.copy(8, 0, 0, 0, 1), BAD);
        c.due("to row -1", x.copy(0, 0, -1, 0, 1), BAD);
        c.due("to row 8", x.copy(0, 0, 8, 0, 1), BAD);
        c.due("BAD ahead of NULL", x.copy(5, 0, 8, 0, 1), BAD);
        c.due("from a missing one", x.copy(5, 0, 0, 0, 1), NULL);
        c.due("to a missing one", x.copy(0, 0, 5, 0, -1), NULL);
        c.due("two lanes", x.copy(0, 0, 2, 0, 1), STORE);
        c.due("two lanes ahead of place", x.copy(0, -1, 2, 0, 9), STORE);
        c.due("i -1", x.copy(0, -1, 1, 0, 1), PLACE);
        c.due("j -1", x.copy(0, 0, 1, -1, 1), PLACE);
        c.due("n -1", x.copy(0, 0, 1, 0, -1), PLACE);
        c.due("beyond the end of a", x.copy(1, 1, 0, 0, 2), PLACE);
        c.due("beyond the end of b", x.copy(0, 0, 1, 0, 3), PLACE);
        c.due("none beyond the end", x.copy(0, 5, 1, 0, 0), PLACE);
        c.due("none beyond the other end", x.copy(0, 0, 1, 3, 0), PLACE);
        c.due("most n", x.copy(0, 1, 1, 1, MAX), PLACE);
        c.due("most i", x.copy(0, MAX, 1, 0, 1), PLACE);
        c.due("most j", x.copy(0, 0, 1, MAX, MAX), PLACE);
        c.due("least i", x.copy(0, MIN, 1, 0, MIN), PLACE);
        c.due("nothing came", zeros(x, 1, 2), 1, 1);
    }

    private static void testDrop(Check c) {
        ClockPost x = new ClockPost();
        x.row(3, 1, 17);
        c.due("drop -1", x.drop(-1), BAD);
        c.due("drop 8", x.drop(8), BAD);
        c.due("drop of a missing one", x.drop(2), NULL);
        c.due("drop", x.drop(3), 17);
        c.due("none is there", x.count(0), 0);
        c.due("dropped twice", x.drop(3), NULL);
        c.due("missing from now on", x.set(3, 0, 0), NULL);
    }

    private static void testStatus(Check c) {
        ClockPost x = new ClockPost();
        c.due("at first", x.status(), 0);
        x.drop(0);
        c.due("NULL", x.status(), 1);
        x.drop(8);
        c.due("BAD leaves it", x.status(), 1);
        x.stealth(0, 0, 1);
        c.due("STATE leaves it", x.status(), 1);
        x.feed(1);
        x.count(99);
        c.due("calls without a ROW leave it", x.status(), 1);
        x.row(0, 0, -5);
        c.due("SIZE", x.status(), 4);
        x.row(0, 0, 5);
        c.due("none", x.status(), 0);
        x.set(0, 5, 0);
        c.due("PLACE", x.status(), 2);
        x.set(0, 4, 0);
        c.due("none of set", x.status(), 0);
        x.row(1, 1, 5);
        x.copy(0, 0, 1, 0, 0);
        c.due("STORE", x.status(), 5);
        x.copy(0, 0, 0, 0, 0);
        c.due("none of copy", x.status(), 0);
        x.drop(1);
        x.drop(1);
        x.drop(0);
        c.due("none of drop", x.status(), 0);
    }
}
