/** Each sentence about KINDS and ASKS that names an edge: promises 28 (kind), 29 (as), 30 (ask), 31 (trace), 32 (count). */
public final class EdgesOfAskedTest {
    private static final int NONE = ClockPost.NONE, BAD = ClockPost.BAD, KIND = -1000013;
    private static final int MIN = Integer.MIN_VALUE, MAX = Integer.MAX_VALUE;
    private static final String ONE_OF_EACH = "c30;b1,2,0;d1,3,0;s1,4,0;n1,5,0;e1,6,0;";
    private static final int[] NO_LETTERS = {-1, 5, 6, MIN, MAX};

    public static void main(String[] args) {
        Check check = new Check();
        kindNumbers(check);
        kindAsTold(check);
        asNumbers(check);
        asNoSuchOne(check);
        asEachKind(check);
        askNumbers(check);
        askBadLeavesTheTrace(check);
        askEmptiesTheTrace(check);
        askSize(check);
        askMark(check);
        askNearestKind(check);
        askTheSameLetter(check);
        askAge(check);
        traceNone(check);
        traceFirstSixteen(check);
        countNumbers(check);
        countWithoutHouse(check);
        countRows(check);
        countBits(check);
        countDay(check);
        countTape(check);
        check.end(28, 29, 30, 31, 32);
    }

    private static void kindNumbers(Check c) {
        c.holds(28, "as told (1 to 5). BAD.");
        ClockPost x = new ClockPost();
        c.due("no house", new int[] {x.kind(0), x.kind(-1)}, BAD, BAD);
        Check.read(x, ONE_OF_EACH);
        for (int letter : NO_LETTERS) {
            c.due("letter " + letter, x.kind(letter), BAD);
        }
        c.due("all", new int[] {x.kind(0), x.kind(1), x.kind(2), x.kind(3), x.kind(4)}, 1, 2, 3, 4, 5);
    }

    private static void kindAsTold(Check c) {
        c.holds(28, "The KIND of a LETTER, as told");
        ClockPost x = Check.house(ONE_OF_EACH);
        x.as(1, 0);
        x.as(1, 1);
        x.row(0, 2, 1);
        x.fits(1, 0, 0, 1, 2);
        c.due("taken as another, tried as others", x.kind(1), 2);
        x.answer(4);
        x.days(9);
        c.due("not behind", x.kind(4), 5);
    }

    private static void asNumbers(Check c) {
        c.holds(29, "A LETTER is taken as one of a KIND (0 .. 5): its number. BAD; KIND");
        ClockPost x = new ClockPost();
        c.due("no house", x.as(0, 0), BAD);
        Check.read(x, ONE_OF_EACH);
        for (int letter : NO_LETTERS) {
            c.due("letter " + letter, x.as(letter, 0), BAD);
            c.due("BAD ahead of KIND", x.as(letter, 5), BAD);
        }
        int[] none = {-1, 6, MIN, MAX};
        for (int kind : none) {
            c.due("kind " + kind, x.as(0, kind), BAD);
        }
        c.due("0 and 5", new int[] {x.as(4, 0), x.as(4, 5)}, 4, 4);
    }

    private static void asNoSuchOne(Check c) {
        c.holds(29, "3 KIND (a LETTER that is not that)");
        ClockPost x = Check.house(ONE_OF_EACH);
        c.due("a bill as a dun", x.as(0, 2), KIND);
        c.due("its number", x.status(), 3);
        c.due("a dun as a bill", x.as(1, 1), 1);
        c.due("none", x.status(), 0);
        x.answer(1);
        c.due("one that is not behind", new int[] {x.as(1, 2), x.as(1, 4)}, 1, KIND);
    }

    private static void asEachKind(Check c) {
        c.holds(29, "0 LETTER; 1 BILL, a LETTER; 2 DUN, a BILL; 3 STALE, a BILL; 4 NOTE, a LETTER; 5 BLACK, a NOTE");
        ClockPost x = Check.house(ONE_OF_EACH);
        String[] is = {"110000", "111000", "110100", "100010", "100011"};
        for (int letter = 0; letter < 5; letter++) {
            for (int kind = 0; kind < 6; kind++) {
                c.due(letter + " as " + kind, x.as(letter, kind), is[letter].charAt(kind) == '1' ? letter : KIND);
            }
        }
    }

    private static void ask(Check c, ClockPost x, int letter, int what, int due, int... bodies) {
        c.due("ask " + letter + ", " + what, x.ask(letter, what), due);
        c.due("trace of " + letter + ", " + what, Check.trace(x), bodies);
    }

    private static void askNumbers(Check c) {
        c.holds(30, "An ASK (0, 1) of a LETTER. BAD");
        ClockPost x = new ClockPost();
        c.due("no house", new int[] {x.ask(0, 0), x.ask(0, 1)}, BAD, BAD);
        Check.read(x, ONE_OF_EACH);
        for (int letter : NO_LETTERS) {
            c.due("letter " + letter, x.ask(letter, 0), BAD);
        }
        int[] none = {-1, 2, MIN, MAX};
        for (int what : none) {
            c.due("what " + what, x.ask(0, what), BAD);
        }
        c.due("0 and 1", new int[] {x.ask(3, 0), x.ask(3, 1)}, -95, 98);
    }

    private static void askBadLeavesTheTrace(Check c) {
        c.holds(30, "BAD (THE TRACE stays then)");
        ClockPost x = Check.house(ONE_OF_EACH);
        x.ask(3, 1);
        x.ask(5, 0);
        x.ask(-1, 1);
        x.ask(0, 2);
        x.ask(0, -1);
        c.due("trace", Check.trace(x), 23, 20, 13, 10);
        Check.read(x, "c1;");
        x.ask(0, 0);
        c.due("behind another house", Check.trace(x), 23, 20, 13, 10);
    }

    private static void askEmptiesTheTrace(Check c) {
        c.holds(30, "THE TRACE is empty ahead of it");
        ClockPost x = Check.house(ONE_OF_EACH);
        x.ask(1, 0);
        c.due("the longest", Check.trace(x), 12, 11, 10, 24, 21, 20);
        x.ask(0, 1);
        c.due("a short one", Check.trace(x), 21, 20);
        x.ask(0, 1);
        c.due("the same again", Check.trace(x), 21, 20);
    }

    private static void askSize(Check c) {
        c.holds(30, "0 SIZE: 10 lent to all LETTERS: THICK");
        ClockPost x = Check.house(ONE_OF_EACH);
        ask(c, x, 0, 0, 2, 11, 10, 21, 20);
        ask(c, x, 1, 0, -5, 12, 11, 10, 24, 21, 20);
        ask(c, x, 3, 0, -95, 13, 10);
        ask(c, x, 4, 0, -188, 14, 13, 10);
    }

    private static void askMark(Check c) {
        c.holds(30, "1 MARK: 20 lent to all LETTERS: the number");
        ClockPost x = Check.house(ONE_OF_EACH);
        ask(c, x, 0, 1, 0, 21, 20);
        ask(c, x, 1, 1, 2, 24, 21, 20);
        ask(c, x, 2, 1, -998, 22, 21, 20);
        ask(c, x, 3, 1, 98, 23, 20, 13, 10);
    }

    private static void askNearestKind(Check c) {
        c.holds(30, "else that of the nearest KIND that it is, too");
        ClockPost x = Check.house(ONE_OF_EACH);
        ask(c, x, 2, 0, 4 + 2 - 1000, 11, 10, 22, 21, 20);
        ask(c, x, 4, 1, 4 - 2 * (6 - 100), 23, 20, 14, 13, 10);
    }

    private static void askTheSameLetter(Check c) {
        c.holds(30, "SIZE, MARK within others are asked of the same LETTER anew");
        ClockPost x = Check.house("c30;n1,9,0;d1,3,0;e1,6,0;s1,7,0;");
        ask(c, x, 1, 0, -(3 + 2 * 1), 12, 11, 10, 24, 21, 20);
        ask(c, x, 2, 1, 2 - 2 * (6 - 100), 23, 20, 14, 13, 10);
        ask(c, x, 3, 0, 7 + 3 - 1000, 11, 10, 22, 21, 20);
    }

    private static void askAge(Check c) {
        c.holds(30, "21 of BILLS: what 20 gives, and AGE");
        ClockPost x = Check.house(ONE_OF_EACH);
        Check.pass(x, 7);
        x.answer(1);
        Check.pass(x, 95);
        ask(c, x, 0, 1, 99, 21, 20);
        ask(c, x, 1, 1, 2 * (1 + 7), 24, 21, 20);
        ask(c, x, 2, 1, 2 + 99 - 1000, 22, 21, 20);
        ask(c, x, 3, 1, 98, 23, 20, 13, 10);
    }

    private static void traceNone(Check c) {
        c.holds(31, "Number i of THE TRACE; NONE.");
        ClockPost x = new ClockPost();
        int[] any = {0, 1, 15, 16, -1, MIN, MAX};
        for (int i : any) {
            c.due("nothing was asked, " + i, x.trace(i), NONE);
        }
        Check.read(x, ONE_OF_EACH);
        x.ask(1, 0);
        c.due("the first", x.trace(0), 12);
        c.due("the last", x.trace(5), 20);
        int[] none = {6, 15, 16, -1, MIN, MAX};
        for (int i : none) {
            c.due("number " + i, x.trace(i), NONE);
        }
    }

    /** No ASK begins more than six BODIES, so that the first 16 are all: what is kept of each is what began. */
    private static void traceFirstSixteen(Check c) {
        c.holds(31, "each of which leaves its number in THE TRACE as it begins (the first 16)");
        ClockPost x = Check.house(ONE_OF_EACH);
        int[] lengths = {4, 6, 5, 2, 3, 2, 3, 3, 4, 5};
        for (int i = 0; i < 10; i++) {
            x.ask(i % 5, i / 5);
            c.due("length of " + i, Check.trace(x).length, lengths[i]);
        }
        x.days(1);
        x.ask(1, 0);
        Check.read(x, "c1;");
        c.due("it stays behind other calls", Check.trace(x), 12, 11, 10, 24, 21, 20);
    }

    private static void countNumbers(Check c) {
        c.holds(32, "8 SORROW, 9 GAP. BAD.");
        ClockPost x = Check.house("c8;n1,5,2;n1,5,4;");
        int[] none = {-1, 10, MIN, MAX};
        for (int what : none) {
            c.due("what " + what, x.count(what), BAD);
        }
        x.days(1);
        c.due("8 and 9", new int[] {x.count(8), x.count(9)}, 2, 8);
    }

    private static void countWithoutHouse(Check c) {
        c.holds(32, "How many: 0 ROWS, 1 LETTERS, 2 the DAY, 3 who is BEHIND (bits), 4 THICKNESS, 5 SUM");
        ClockPost x = new ClockPost();
        c.due("no house", Check.counts(x), new int[10]);
        c.due("what 10", x.count(10), BAD);
        x.row(0, 0, 1);
        x.feed('c');
        c.due("a row, a byte", Check.counts(x), 1, 0, 0, 0, 0, 0, 0, 1, 0, 0);
    }

    private static void countRows(Check c) {
        c.holds(32, "How many: 0 ROWS");
        ClockPost x = new ClockPost();
        for (int row = 0; row < 8; row++) {
            x.row(7 - row, 0, 0);
            c.due("rows", x.count(0), row + 1);
        }
        x.row(3, 2, 9);
        c.due("laid anew", x.count(0), 8);
        x.drop(3);
        c.due("one is missing", x.count(0), 7);
    }

    private static void countBits(Check c) {
        c.holds(32, "3 who is BEHIND (bits), 4 THICKNESS");
        ClockPost x = Check.house("c30;n1,1,0;n1,2,0;n1,3,0;n1,4,0;n1,5,0;n1,6,0;");
        c.due("all", new int[] {x.count(3), x.count(4)}, 63, 21);
        x.answer(0);
        x.answer(5);
        c.due("four", new int[] {x.count(3), x.count(4), x.count(1)}, 30, 14, 6);
    }

    private static void countDay(Check c) {
        c.holds(32, "2 the DAY, 3 who is BEHIND (bits), 4 THICKNESS, 5 SUM, 6 ACTS that can be undone");
        ClockPost x = Check.house("c30;n1,1,0;");
        Check.pass(x, 999);
        c.due("the last", new int[] {x.count(2), x.count(5), x.count(6)}, 999, 999, 24);
        x.undo();
        c.due("undone", new int[] {x.count(2), x.count(5), x.count(6)}, 998, 998, 23);
    }

    private static void countTape(Check c) {
        c.holds(32, "7 bytes on the tape");
        ClockPost x = new ClockPost();
        c.due("none", x.count(7), 0);
        for (int i = 0; i < 101; i++) {
            x.feed('c');
        }
        c.due("the most", x.count(7), 100);
        x.house();
        c.due("empty then", x.count(7), 0);
    }
}
