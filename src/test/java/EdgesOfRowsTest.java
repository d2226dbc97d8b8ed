/** Each sentence about ROWS that names an edge: promises 2 (row), 3 (set), 4 (copy), 5 (drop), 33 (status). */
public final class EdgesOfRowsTest {
    private static final int BAD = ClockPost.BAD, STATE = ClockPost.STATE;
    private static final int NULL = -1000011, PLACE = -1000012, SIZE = -1000014, STORE = -1000015;
    private static final int MIN = Integer.MIN_VALUE, MAX = Integer.MAX_VALUE;
    private static final int[] NO_ROWS = {-1, 8, MIN, MAX};
    /** A HOUSE in which one ITEM can be read back: see Check.items(). */
    private static final String ONE_NOTE = "c9;n0,1,0;";

    public static void main(String[] args) {
        Check check = new Check();
        rowNumbers(check);
        rowsMissingAtFirst(check);
        rowLanes(check);
        rowSizes(check);
        rowZeroes(check);
        rowInPlace(check);
        rowTooLong(check);
        rowRefusals(check);
        rowFewerThanNone(check);
        setLowestBits(check);
        setItem(check);
        setRefusals(check);
        setPlaces(check);
        copyRows(check);
        copyMissing(check);
        copyLanes(check);
        copyPlaces(check);
        copyRefusals(check);
        copyAsTheyWere(check);
        copyAsMany(check);
        dropRefusals(check);
        dropItems(check);
        dropFromNowOn(check);
        statusAtFirst(check);
        statusNone(check);
        statusFindings(check);
        statusRefused(check);
        statusOfOtherCalls(check);
        check.end(2, 3, 4, 5, 33);
    }

    private static void rowNumbers(Check c) {
        c.holds(2, "ROWS 0 .. 7");
        ClockPost x = new ClockPost();
        for (int row : NO_ROWS) {
            c.due("row " + row, x.row(row, 0, 1), BAD);
        }
        c.due("none is there", x.count(0), 0);
        for (int row = 0; row < 8; row++) {
            c.due("row " + row, x.row(row, 0, 1), 1);
        }
        c.due("all are there", x.count(0), 8);
    }

    private static void rowsMissingAtFirst(Check c) {
        c.holds(2, "are missing (at first)");
        ClockPost x = new ClockPost();
        for (int row = 0; row < 8; row++) {
            c.due("drop " + row, x.drop(row), NULL);
            c.due("set " + row, x.set(row, 0, 0), NULL);
            c.due("copy " + row, x.copy(row, 0, row, 0, 0), NULL);
        }
        c.due("how many there are", x.count(0), 0);
    }

    private static void rowLanes(Check c) {
        c.holds(2, "a LANE (0 bytes, 1 shorts, 2 ints)");
        ClockPost x = new ClockPost();
        int[] noLanes = {-1, 3, MIN, MAX};
        for (int lane : noLanes) {
            c.due("lane " + lane, x.row(0, lane, 1), BAD);
        }
        int[] cut = {(byte) 305419896, (short) 305419896, 305419896};
        for (int lane = 0; lane < 3; lane++) {
            c.due("lane " + lane, x.row(lane, lane, 1), 1);
            c.due("its bits", x.set(lane, 0, 305419896), cut[lane]);
        }
    }

    private static void rowSizes(Check c) {
        c.holds(2, "0 to 40 ITEMS");
        ClockPost x = new ClockPost();
        c.due("0", x.row(0, 0, 0), 0);
        c.due("it is there", x.count(0), 1);
        c.due("no item", x.set(0, 0, 1), PLACE);
        c.due("1", x.row(1, 1, 1), 1);
        c.due("40", x.row(2, 2, 40), 40);
        c.due("item 39", x.set(2, 39, 7), 7);
        c.due("item 40", x.set(2, 40, 7), PLACE);
    }

    private static void rowZeroes(Check c) {
        c.holds(2, "0 to 40 ITEMS, 0 at first");
        ClockPost x = Check.house(ONE_NOTE);
        for (int lane = 0; lane < 3; lane++) {
            x.row(5, lane, 40);
            c.due("lane " + lane, Check.items(x, 5, 40), new int[40]);
            x.set(5, 0, 1);
            x.set(5, 39, 1);
        }
        x.row(5, 2, 40);
        c.due("laid anew", Check.items(x, 5, 40), new int[40]);
    }

    private static void rowInPlace(Check c) {
        c.holds(2, "in place of what is there: n");
        ClockPost x = new ClockPost();
        x.row(3, 0, 40);
        c.due("another lane, fewer items", x.row(3, 1, 2), 2);
        c.due("the lane", x.set(3, 1, 300), 300);
        c.due("the end", x.set(3, 2, 0), PLACE);
        c.due("one row", x.count(0), 1);
        c.due("more items", x.row(3, 1, 3), 3);
        c.due("the other end", x.set(3, 2, 0), 0);
        c.due("how many", x.drop(3), 3);
    }

    private static void rowTooLong(Check c) {
        c.holds(2, "n above 40");
        ClockPost x = new ClockPost();
        c.due("40", x.row(0, 0, 40), 40);
        c.due("41", x.row(0, 0, 41), BAD);
        c.due("most", x.row(0, 0, MAX), BAD);
        c.due("what is there stays", x.drop(0), 40);
    }

    private static void rowRefusals(Check c) {
        c.holds(2, "BAD: ROW, LANE, n above 40; SIZE.");
        ClockPost x = new ClockPost();
        c.due("ROW ahead of SIZE", x.row(8, 0, -1), BAD);
        c.due("LANE ahead of SIZE", x.row(0, 3, -1), BAD);
        c.due("SIZE", x.row(0, 2, -1), SIZE);
    }

    private static void rowFewerThanNone(Check c) {
        c.holds(2, "4 SIZE (fewer than none)");
        ClockPost x = new ClockPost();
        x.row(0, 0, 9);
        c.due("-1", x.row(0, 0, -1), SIZE);
        c.due("its number", x.status(), 4);
        c.due("least", x.row(0, 0, MIN), SIZE);
        c.due("none is not fewer", x.row(1, 0, 0), 0);
        c.due("what is there stays", x.drop(0), 9);
    }

    private static void setLowestBits(Check c) {
        c.holds(3, "its lowest bits, as many as the LANE has: what it is then");
        ClockPost x = new ClockPost();
        int[][] due = {
            {0, 127, 127}, {0, 128, -128}, {0, 255, -1}, {0, 256, 0}, {0, -1, -1}, {0, -128, -128}, {0, -129, 127},
            {0, MIN, 0}, {0, MAX, -1}, {1, 32767, 32767}, {1, 32768, -32768}, {1, 65535, -1}, {1, 65536, 0}, {1, -1, -1},
            {1, -32768, -32768}, {1, -32769, 32767}, {1, MIN, 0}, {1, MAX, -1}, {2, MAX, MAX}, {2, MIN, MIN}, {2, -1, -1},
        };
        for (int[] one : due) {
            x.row(0, one[0], 1);
            c.due("lane " + one[0] + ", " + one[1], x.set(0, 0, one[1]), one[2]);
        }
    }

    private static void setItem(Check c) {
        c.holds(3, "ITEM i becomes v, its lowest bits");
        ClockPost x = Check.house(ONE_NOTE);
        x.row(0, 0, 4);
        x.set(0, 1, 3);
        x.set(0, 2, 256 + 7);
        x.set(0, 3, 9);
        c.due("that item alone, cut", Check.items(x, 0, 4), 0, 3, 7, 9);
        x = Check.house("c30;d9,1,0;d9,1,0;d9,1,0;d9,1,0;d9,1,0;d9,1,0;");
        x.days(3);
        x.row(0, 0, 1);
        x.row(1, 1, 1);
        x.set(0, 0, 144);
        x.set(1, 0, 144);
        c.due("BURDEN", x.burden(0), 144);
        c.due("a byte is never that", x.stealth(0, 0, 1), 0);
        c.due("a short is", x.stealth(1, 0, 1), 64);
    }

    private static void setRefusals(Check c) {
        c.holds(3, "BAD: ROW; NULL; PLACE.");
        ClockPost x = new ClockPost();
        for (int row : NO_ROWS) {
            c.due("BAD ahead of all, row " + row, x.set(row, -1, 0), BAD);
        }
        c.due("NULL ahead of PLACE", x.set(0, -1, 0), NULL);
        x.row(0, 0, 1);
        c.due("PLACE", x.set(0, -1, 0), PLACE);
    }

    private static void setPlaces(Check c) {
        c.holds(3, "2 PLACE (no such place of a ROW)");
        ClockPost x = new ClockPost();
        x.row(0, 2, 3);
        c.due("first", x.set(0, 0, 5), 5);
        c.due("last", x.set(0, 2, 6), 6);
        int[] noPlaces = {-1, 3, 40, MIN, MAX};
        for (int i : noPlaces) {
            c.due("place " + i, x.set(0, i, 0), PLACE);
        }
        x.row(0, 2, 0);
        c.due("none at all", x.set(0, 0, 0), PLACE);
    }

    private static void copyRows(Check c) {
        c.holds(4, "BAD: ROWS; NULL; STORE; PLACE");
        ClockPost x = new ClockPost();
        x.row(0, 0, 1);
        x.row(7, 0, 1);
        for (int row : NO_ROWS) {
            c.due("from " + row, x.copy(row, 0, 0, 0, 1), BAD);
            c.due("to " + row, x.copy(0, 0, row, 0, 1), BAD);
        }
        c.due("0 and 7", x.copy(0, 0, 7, 0, 1), 1);
    }

    private static void copyMissing(Check c) {
        c.holds(4, "1 NULL (a ROW that is missing)");
        ClockPost x = new ClockPost();
        x.row(0, 0, 1);
        c.due("from", x.copy(1, 0, 0, 0, 1), NULL);
        c.due("to", x.copy(0, 0, 1, 0, 1), NULL);
        c.due("both", x.copy(2, 0, 1, 0, 1), NULL);
        c.due("none of it", x.copy(1, 0, 0, 0, 0), NULL);
        c.due("its number", x.status(), 1);
    }

    private static void copyLanes(Check c) {
        c.holds(4, "5 STORE (ROWS of two LANES)");
        ClockPost x = new ClockPost();
        for (int a = 0; a < 3; a++) {
            x.row(a, a, 2);
            x.row(a + 3, a, 2);
        }
        for (int a = 0; a < 3; a++) {
            for (int b = 3; b < 6; b++) {
                c.due("lanes " + a + ", " + (b - 3), x.copy(a, 0, b, 0, 1), a == b - 3 ? 1 : STORE);
            }
        }
        c.due("even none", x.copy(0, 0, 4, 0, 0), STORE);
        c.due("its number", x.status(), 5);
    }

    private static void copyPlaces(Check c) {
        c.holds(4, "PLACE (i, j, n below 0, or beyond an end)");
        ClockPost x = new ClockPost();
        x.row(0, 2, 4);
        x.row(1, 2, 2);
        int[][] none = {{-1, 0, 1}, {0, -1, 1}, {0, 0, -1}, {3, 0, 2}, {0, 1, 2}, {0, 0, 3}, {5, 0, 0}, {0, 3, 0}, {4, 0, 1},
            {0, 2, 1}, {MAX, 0, 1}, {0, MAX, 1}, {1, 1, MAX}, {MIN, 0, MIN}, {0, MIN, 1}, {0, 0, MIN}, {MAX, 0, MAX}};
        for (int[] p : none) {
            c.due("from " + p[0] + " to " + p[1] + ", " + p[2], x.copy(0, p[0], 1, p[1], p[2]), PLACE);
        }
        int[][] some = {{0, 0, 0}, {4, 2, 0}, {0, 0, 2}, {2, 0, 2}, {3, 1, 1}};
        for (int[] p : some) {
            c.due("from " + p[0] + " to " + p[1] + ", " + p[2], x.copy(0, p[0], 1, p[1], p[2]), p[2]);
        }
        c.due("beyond the end of a", x.copy(1, 1, 0, 0, 2), PLACE);
        c.due("its number", x.set(0, 4, 0) - x.status(), PLACE - 2);
    }

    private static void copyRefusals(Check c) {
        c.holds(4, "the first of these that fits");
        ClockPost x = new ClockPost();
        x.row(0, 0, 1);
        x.row(1, 1, 1);
        c.due("BAD ahead of NULL", x.copy(5, -1, 8, 0, 1), BAD);
        c.due("BAD of the other ahead of NULL", x.copy(-1, -1, 5, 0, 1), BAD);
        c.due("NULL ahead of PLACE", x.copy(0, -1, 5, 0, -1), NULL);
        c.due("STORE ahead of PLACE", x.copy(0, -1, 1, 9, -1), STORE);
        c.due("PLACE", x.copy(0, -1, 0, 9, -1), PLACE);
    }

    private static ClockPost oneToSix() {
        ClockPost x = Check.house(ONE_NOTE);
        Check.lay(x, 0, 1, 2, 3, 4, 5, 6);
        return x;
    }

    private static void copyAsTheyWere(Check c) {
        c.holds(4, "as they were ahead");
        ClockPost x = oneToSix();
        c.due("to the right", x.copy(0, 0, 0, 2, 4), 4);
        c.due("overlapping", Check.items(x, 0, 6), 1, 2, 1, 2, 3, 4);
        x = oneToSix();
        c.due("to the left", x.copy(0, 1, 0, 0, 5), 5);
        c.due("overlapping", Check.items(x, 0, 6), 2, 3, 4, 5, 6, 6);
        x = oneToSix();
        c.due("onto themselves", x.copy(0, 0, 0, 0, 6), 6);
        c.due("overlapping", Check.items(x, 0, 6), 1, 2, 3, 4, 5, 6);
    }

    private static void copyAsMany(Check c) {
        c.holds(4, "n ITEMS of a from i on come to b from j on");
        ClockPost x = oneToSix();
        Check.lay(x, 1, 9, 9, 9, 9);
        c.due("none", x.copy(0, 0, 1, 0, 0), 0);
        c.due("nothing came", Check.items(x, 1, 4), 9, 9, 9, 9);
        c.due("two", x.copy(0, 3, 1, 1, 2), 2);
        c.due("they alone", Check.items(x, 1, 4), 9, 4, 5, 9);
        c.due("a stays", Check.items(x, 0, 6), 1, 2, 3, 4, 5, 6);
        c.due("the last", x.copy(0, 5, 1, 3, 1), 1);
        c.due("there", Check.items(x, 1, 4), 9, 4, 5, 6);
        x.row(2, 2, 40);
        x.row(3, 2, 40);
        x.set(2, 0, 8);
        x.set(2, 39, 7);
        c.due("all 40", x.copy(2, 0, 3, 0, 40), 40);
        int[] came = Check.items(x, 3, 40);
        c.due("first and last", new int[] {came[0], came[1], came[38], came[39]}, 8, 0, 0, 7);
    }

    private static void dropRefusals(Check c) {
        c.holds(5, "BAD; NULL.");
        ClockPost x = new ClockPost();
        for (int row : NO_ROWS) {
            c.due("drop " + row, x.drop(row), BAD);
        }
        for (int row = 0; row < 8; row++) {
            c.due("drop of a missing one, " + row, x.drop(row), NULL);
        }
        c.due("its number", x.status(), 1);
    }

    private static void dropItems(Check c) {
        c.holds(5, "how many ITEMS it had");
        ClockPost x = new ClockPost();
        x.row(0, 2, 0);
        x.row(7, 0, 40);
        c.due("none", x.drop(0), 0);
        c.due("40", x.drop(7), 40);
    }

    private static void dropFromNowOn(Check c) {
        c.holds(5, "A ROW is missing from now on");
        ClockPost x = Check.house(ONE_NOTE);
        Check.lay(x, 0, 5, 5);
        x.row(1, 2, 2);
        x.drop(0);
        c.due("count", x.count(0), 1);
        c.due("drop", x.drop(0), NULL);
        c.due("set", x.set(0, 0, 0), NULL);
        c.due("copy from", x.copy(0, 0, 1, 0, 1), NULL);
        c.due("copy to", x.copy(1, 0, 0, 0, 1), NULL);
        c.due("fits", x.fits(0, 0, 0, 1, 0), NULL);
        c.due("stealth", x.stealth(0, 0, 1), NULL);
        c.due("the other is there", x.set(1, 1, 4), 4);
        c.due("laid anew", x.row(0, 2, 2), 2);
        c.due("0 at first", Check.items(x, 0, 2), 0, 0);
    }

    private static void statusAtFirst(Check c) {
        c.holds(33, "0: it had none, or there was none");
        ClockPost x = new ClockPost();
        c.due("at first", x.status(), 0);
        x.row(8, 0, 0);
        c.due("behind a refused call", x.status(), 0);
        x.drop(0);
        c.due("one that had one", x.status(), 1);
        x.row(0, 0, 0);
        c.due("one that had none", x.status(), 0);
    }

    /** Each call with a ROW, or as(), that finds nothing, behind one that found something. */
    private static void statusNone(Check c) {
        c.holds(33, "Of the latest call with a ROW, or as()");
        ClockPost x = Check.house(ONE_NOTE);
        Runnable[] calls = {() -> x.row(0, 2, 3), () -> x.set(0, 0, 1), () -> x.copy(0, 0, 0, 0, 0), () -> x.fits(0, 0, 0, 1, 0),
            () -> x.stealth(0, 0, 1), () -> x.as(0, 0), () -> x.drop(0)};
        for (int i = 0; i < calls.length; i++) {
            x.drop(7);
            c.due("found ahead of call " + i, x.status(), 1);
            calls[i].run();
            c.due("none of call " + i, x.status(), 0);
        }
    }

    private static void statusFindings(Check c) {
        c.holds(33, "the number of its FINDING");
        ClockPost x = Check.house(ONE_NOTE);
        x.row(0, 0, 1);
        x.row(1, 1, 1);
        Runnable[] calls = {() -> x.drop(7), () -> x.set(0, 1, 0), () -> x.as(0, 1), () -> x.row(0, 0, -1), () -> x.copy(0, 0, 1, 0, 0),
            () -> x.set(7, 0, 0), () -> x.copy(7, 0, 0, 0, 0), () -> x.copy(0, 0, 0, 0, 2), () -> x.fits(0, 7, 0, 1, 0),
            () -> x.fits(0, 0, 0, 2, 0), () -> x.stealth(7, 0, 1), () -> x.stealth(0, 0, 2)};
        int[] due = {1, 2, 3, 4, 5, 1, 1, 2, 1, 2, 1, 2};
        for (int i = 0; i < calls.length; i++) {
            x.copy(0, 0, 0, 0, 0);
            calls[i].run();
            c.due("call " + i, x.status(), due[i]);
        }
    }

    private static void statusRefused(Check c) {
        c.holds(33, "that was not BAD, STATE, FULL");
        ClockPost x = new ClockPost();
        x.row(0, 0, -1);
        c.due("STATE", x.stealth(0, 0, 1), STATE);
        c.due("it stays behind STATE", x.status(), 4);
        Check.read(x, ONE_NOTE);
        int[] refused = {x.row(8, 0, 0), x.set(8, 0, 0), x.copy(8, 0, 0, 0, 0), x.drop(8), x.fits(0, 8, 0, 1, 0), x.stealth(8, 0, 1),
            x.as(1, 0)};
        for (int i = 0; i < refused.length; i++) {
            c.due("call " + i, refused[i], BAD);
        }
        c.due("it stays behind BAD", x.status(), 4);
    }

    private static void statusOfOtherCalls(Check c) {
        c.holds(33, "the latest call with a ROW");
        ClockPost x = Check.house(ONE_NOTE);
        x.row(0, 0, -1);
        Runnable[] calls = {() -> x.feed(1), x::house, x::fault, () -> x.days(1), () -> x.answer(0), () -> x.post(0),
            () -> x.dread(0, 0), x::undo, () -> x.letter(0, 0), () -> x.burden(0), () -> x.sum(0), () -> x.behind(0),
            () -> x.falls(0), () -> x.order(1, 0), () -> x.hold(1, 0), () -> x.ease(1, 0, 0), () -> x.lost(0, 0, 0),
            () -> x.drawn(0, 1, 0), () -> x.image(0), () -> x.restore(0), () -> x.kind(0), () -> x.ask(0, 0), () -> x.trace(0),
            () -> x.count(0), x::status, () -> Check.read(x, ONE_NOTE)};
        for (int i = 0; i < calls.length; i++) {
            calls[i].run();
            c.due("call " + i, x.status(), 4);
        }
    }
}
