import java.util.ArrayList;
import java.util.List;

/** Each sentence about texts that names an edge: promises 1 (a new object), 6 (feed), 7 (house), 8 (fault). */
public final class EdgesOfTextsTest {
    private static final int BAD = ClockPost.BAD, STATE = ClockPost.STATE, FULL = ClockPost.FULL;
    private static final int NO_FAULT = 0;
    private static final String SIX = "c1;b1,1,1;d1,1,1;s1,1,1;n1,1,1;e1,1,1;b1,1,1;";
    /** A text with NUMBERS of one and of two figures, the TOKENS of which are at these places. */
    private static final String TEXT = "c14;b3,4,06;e09,1,00;";
    private static final int[] PLACES = {0, 1, 3, 4, 5, 6, 7, 8, 9, 11, 12, 13, 15, 16, 17, 18, 20};

    public static void main(String[] args) {
        Check check = new Check();
        noHouseAtFirst(check);
        feedBytes(check);
        feedMost(check);
        feedFullIsNotKept(check);
        feedRefusals(check);
        tapeEmptyThen(check);
        tapeReadAlone(check);
        lettersByThemselves(check);
        figures(check);
        signs(check);
        nothingElse(check);
        law(check);
        noLetters(check);
        lawAhead(check);
        fear(check);
        thick(check);
        holds(check);
        mostLetters(check);
        sorts(check);
        inPlaceOfTheOneBefore(check);
        dayZero(check);
        allBehind(check);
        noActs(check);
        imagesAndRowsStay(check);
        firstToken(check);
        firstByte(check);
        leastOfOneToken(check);
        cannotStandThere(check);
        threeFigures(check);
        theEnd(check);
        notAsTold(check);
        noRoom(check);
        placesOfFaults(check);
        allElseStays(check);
        faultStays(check);
        noFaultAtFirst(check);
        latestFault(check);
        check.end(1, 6, 7, 8);
    }

    /** {place, number} of the FAULT of a text; {NO_FAULT, NO_FAULT} of one that has none. */
    private static int[] faultOf(String text) {
        ClockPost x = new ClockPost();
        int told = Check.read(x, text);
        return told >= 0 ? new int[] {NO_FAULT, NO_FAULT} : new int[] {-1000100 - told, x.fault()};
    }

    private static void fault(Check c, String text, int place, int number) {
        c.due("{place, fault} of " + text, faultOf(text), place, number);
    }

    private static void good(Check c, String text) {
        fault(c, text, NO_FAULT, NO_FAULT);
    }

    private static void noHouseAtFirst(Check c) {
        c.holds(1, "No HOUSE");
        ClockPost x = new ClockPost();
        c.due("counts", Check.counts(x), new int[10]);
        c.due("letter 0", Check.letter(x, 0), BAD, BAD, BAD, BAD, BAD, BAD);
        c.due("kind", x.kind(0), BAD);
        c.due("days", x.days(1), STATE);
        c.due("burden", x.burden(0), STATE);
        c.due("image", x.image(0), STATE);
        c.due("restore", new int[] {x.restore(0), x.restore(1)}, STATE, STATE);
        c.due("undo", x.undo(), STATE);
        c.due("fault, status", new int[] {x.fault(), x.status()}, 0, 0);
        c.due("trace", x.trace(0), ClockPost.NONE);
    }

    private static void feedBytes(Check c) {
        c.holds(6, "A byte (0 to 255) comes behind the tape: how many it has");
        ClockPost x = new ClockPost();
        int[] none = {-1, 256, Integer.MIN_VALUE, Integer.MAX_VALUE};
        for (int b : none) {
            c.due("byte " + b, x.feed(b), BAD);
        }
        c.due("none of them came", x.count(7), 0);
        c.due("0", x.feed(0), 1);
        c.due("255", x.feed(255), 2);
        c.due("both came", x.count(7), 2);
    }

    private static void feedMost(Check c) {
        c.holds(6, "THE TAPE has at most 100 bytes, that come one by one");
        ClockPost x = new ClockPost();
        for (int i = 1; i <= 100; i++) {
            c.due("byte " + i, x.feed('c'), i);
        }
        c.due("one more", x.feed('c'), FULL);
        c.due("how many", x.count(7), 100);
        x.house();
        c.due("room again", x.feed('c'), 1);
    }

    private static void feedFullIsNotKept(Check c) {
        c.holds(6, "What is refused, or found, changes nothing but status()");
        ClockPost x = new ClockPost();
        Check.feed(x, SIX);
        for (int i = SIX.length(); i < 100; i++) {
            x.feed('z');
        }
        c.due("full", x.feed('b'), FULL);
        c.due("bad", x.feed(-1), BAD);
        c.due("the bytes that were there", x.house(), -1000100 - SIX.length());
        c.due("are read", x.fault(), 1);
    }

    private static void feedRefusals(Check c) {
        c.holds(6, "BAD; FULL.");
        ClockPost x = new ClockPost();
        for (int i = 0; i < 100; i++) {
            x.feed(i);
        }
        c.due("FULL", x.feed(255), FULL);
        c.due("BAD ahead of FULL", new int[] {x.feed(256), x.feed(-1)}, BAD, BAD);
    }

    private static void tapeEmptyThen(Check c) {
        c.holds(7, "The tape, empty then, is read");
        ClockPost x = new ClockPost();
        c.due("a house", Check.read(x, TEXT), 2);
        c.due("empty behind it", x.count(7), 0);
        c.due("empty", x.house(), -1000100);
        c.due("a fault", Check.read(x, "c1"), -1000102);
        c.due("empty behind it, too", x.count(7), 0);
        c.due("the first byte", x.feed('c'), 1);
    }

    private static void tapeReadAlone(Check c) {
        c.holds(7, "is read: how many LETTERS there are");
        ClockPost x = new ClockPost();
        c.due("two", Check.read(x, TEXT), 2);
        c.due("what was read before is not read again", Check.read(x, "c14"), -1000103);
        c.due("nor its letters", Check.read(x, "c14;"), 0);
        c.due("one", Check.read(x, "c14;b3,4,06;"), 1);
        c.due("six", Check.read(x, SIX), 6);
    }

    private static void lettersByThemselves(Check c) {
        c.holds(7, "letters a to z (each by itself)");
        fault(c, "cc1;", 1, 1);
        fault(c, "c1;bb1,1,1;", 4, 1);
        fault(c, "c1;bd1,1,1;", 4, 1);
        fault(c, "c1;b1,1,1;nn", 11, 1);
    }

    private static void figures(Check c) {
        c.holds(7, "NUMBERS (figures, 2 at most)");
        good(c, "c1;");
        good(c, "c01;");
        fault(c, "c001;", 1, 1);
        good(c, "c1;b01,01,01;");
        fault(c, "c1;b001,1,1;", 4, 1);
        fault(c, "c1;b1,001,1;", 6, 1);
        fault(c, "c1;b1,1,001;", 8, 1);
        fault(c, "c/;", 1, 1);
        fault(c, "c:;", 1, 1);
        fault(c, "c1/;", 2, 1);
        fault(c, "c1:;", 2, 1);
    }

    /** Each SIGN in turn becomes each other byte but a figure, which would be one of the NUMBER ahead of it. */
    private static void signs(Check c) {
        c.holds(7, "SIGNS , and ;");
        good(c, TEXT);
        for (int i = 0; i < TEXT.length(); i++) {
            char due = TEXT.charAt(i);
            for (int b = 0; b < 256 && (due == ',' || due == ';'); b++) {
                boolean figure = b >= '0' && b <= '9';
                if (!figure && b != due) {
                    fault(c, TEXT.substring(0, i) + (char) b + TEXT.substring(i + 1), i, 1);
                }
            }
        }
    }

    private static void nothingElse(Check c) {
        c.holds(7, "nothing else, no blanks");
        int[] nothing = {' ', '\n', '\t', 0, 255, '-', '+', '.', 'B', 'C'};
        for (int i = 0; i <= TEXT.length(); i++) {
            for (int b : nothing) {
                fault(c, TEXT.substring(0, i) + (char) b + TEXT.substring(i), i, 1);
            }
        }
    }

    private static void law(Check c) {
        c.holds(7, "law: c GAP ; (1 to 30)");
        for (int gap = 0; gap < 100; gap++) {
            boolean told = gap >= 1 && gap <= 30;
            fault(c, "c" + gap + ";", told ? NO_FAULT : 1, told ? NO_FAULT : 2);
        }
        c.due("1", Check.house("c1;").count(9), 1);
        c.due("30", Check.house("c30;").count(9), 30);
    }

    private static void noLetters(Check c) {
        c.holds(7, "house: law { letter }");
        ClockPost x = new ClockPost();
        c.due("a law alone", Check.read(x, "c5;"), 0);
        c.due("is a house", new int[] {x.burden(60), x.count(9), x.count(3)}, 0, 5, 0);
        c.due("a letter and another", Check.read(x, "c5;b1,1,1;b2,2,2;"), 2);
    }

    private static void lawAhead(Check c) {
        c.holds(7, "law: c GAP ;");
        fault(c, "b1,1,1;", 0, 1);
        fault(c, "5;", 0, 1);
        fault(c, ";", 0, 1);
        fault(c, "c5;c5;", 3, 1);
        fault(c, "c5;b1,1,1;c5;", 10, 1);
    }

    private static void number(Check c, String ahead, String behind, int least) {
        for (int v = 0; v < 100; v++) {
            boolean told = v >= least && v <= 9;
            fault(c, ahead + v + behind, told ? NO_FAULT : ahead.length(), told ? NO_FAULT : 2);
        }
    }

    private static void fear(Check c) {
        c.holds(7, "one with a black edge; 0 to 9; 1 to 9; 0 to 9;");
        number(c, "c5;b", ",1,1;", 0);
        c.due("0", Check.house("c5;b0,1,1;").letter(0, 0), 0);
        c.due("9", Check.house("c5;b9,1,1;").letter(0, 0), 9);
    }

    private static void thick(Check c) {
        c.holds(7, "0 to 9; 1 to 9; 0 to 9");
        number(c, "c5;b1,", ",1;", 1);
        c.due("1", Check.house("c5;b1,1,1;").letter(0, 1), 1);
        c.due("9", Check.house("c5;b1,9,1;").letter(0, 1), 9);
    }

    private static void holds(Check c) {
        c.holds(7, "1 to 9; 0 to 9; LETTERS");
        number(c, "c5;b1,1,", ";", 0);
        c.due("0", Check.house("c5;b1,1,0;").letter(0, 2), 0);
        c.due("9", Check.house("c5;b1,1,9;").letter(0, 2), 9);
    }

    private static void mostLetters(Check c) {
        c.holds(7, "LETTERS 0 .. 5, 6 at most");
        ClockPost x = new ClockPost();
        c.due("six", Check.read(x, SIX), 6);
        c.due("letter 0", x.kind(0), 1);
        c.due("letter 5", x.kind(5), 1);
        c.due("letter 6", x.kind(6), BAD);
        c.due("letter -1", x.kind(-1), BAD);
        c.due("a seventh", Check.read(x, SIX + "b1,1,1;"), -1000100 - SIX.length());
    }

    private static void sorts(Check c) {
        c.holds(7, "SORT: b a bill, d a dun, s a stale one, n a note, e one with a black edge");
        for (char sort = 'a'; sort <= 'z'; sort++) {
            int kind = "bdsne".indexOf(sort) + 1;
            String text = "c1;" + sort + "1,1,1;";
            fault(c, text, kind == 0 ? 3 : NO_FAULT, kind == 0 ? 1 : NO_FAULT);
            if (kind > 0) {
                c.due("kind of " + text, Check.house(text).kind(0), kind);
            }
        }
    }

    private static void inPlaceOfTheOneBefore(Check c) {
        c.holds(7, "A HOUSE that is read stands in place of the one before (none at first)");
        ClockPost x = new ClockPost();
        c.due("none at first", x.burden(0), STATE);
        Check.read(x, SIX);
        c.due("fewer letters", Check.read(x, "c7;n4,5,6;"), 1);
        c.due("the letter", Check.letter(x, 0), 4, 5, 6, 1, 0, 4);
        c.due("its kind", x.kind(0), 4);
        c.due("no other", x.letter(1, 0), BAD);
        c.due("counts", Check.counts(x), 0, 1, 0, 1, 5, 0, 0, 0, 0, 7);
    }

    private static ClockPost worn() {
        ClockPost x = Check.house("c3;b5,2,8;n5,2,9;");
        x.row(4, 1, 11);
        x.image(0);
        x.days(5);
        x.image(1);
        x.answer(1);
        return x;
    }

    private static void dayZero(Check c) {
        c.holds(7, "AGE of each is 0, SUM and SORROW are 0");
        ClockPost x = worn();
        c.due("DAY, SUM, SORROW", new int[] {x.count(2), x.count(5), x.count(8)}, 5, 30, 12);
        Check.read(x, "c9;b5,2,8;n5,2,9;");
        c.due("DAY, SUM, SORROW then", new int[] {x.count(2), x.count(5), x.count(8)}, 0, 0, 0);
        c.due("ages", new int[] {x.letter(0, 4), x.letter(1, 4)}, 0, 0);
    }

    private static void allBehind(Check c) {
        c.holds(7, "DAY 0, all LETTERS are BEHIND the clock");
        ClockPost x = worn();
        Check.read(x, "c1;b1,9,9;b1,9,9;b1,9,9;b1,9,9;b1,9,9;b1,9,9;");
        c.due("even beyond GAP", new int[] {x.count(3), x.count(4), x.count(8)}, 63, 54, 0);
        Check.read(x, "c1;b1,9,9;");
        c.due("one", x.count(3), 1);
    }

    private static void noActs(Check c) {
        c.holds(7, "no ACT can be undone");
        ClockPost x = worn();
        c.due("acts", x.count(6), 6);
        Check.read(x, "c1;");
        c.due("acts then", x.count(6), 0);
        c.due("undo", x.undo(), STATE);
    }

    private static void imagesAndRowsStay(Check c) {
        c.holds(7, "IMAGES and ROWS stay");
        ClockPost x = worn();
        Check.read(x, "c1;");
        c.due("rows", x.count(0), 1);
        c.due("image 0", x.restore(0), 1);
        c.due("its counts", Check.counts(x), 1, 2, 0, 3, 4, 0, 0, 0, 0, 3);
        c.due("image 1", x.restore(1), 1);
        c.due("its counts", Check.counts(x), 1, 2, 5, 2, 2, 30, 0, 0, 8, 3);
        c.due("row", x.drop(4), 11);
    }

    private static void firstToken(Check c) {
        c.holds(7, "FAULTS, the first TOKEN that has one");
        fault(c, "c0;b1,0,1;", 1, 2);
        fault(c, "c1;b1,0,99;", 6, 2);
        fault(c, "c1;b1,0,,", 6, 2);
        fault(c, "c1;b1;0,1;", 5, 1);
        fault(c, SIX.substring(0, SIX.length() - 2) + "99;b", SIX.length() - 2, 2);
        fault(c, SIX + "b1;z", SIX.length(), 3);
    }

    private static void firstByte(Check c) {
        c.holds(7, "(its first byte)");
        fault(c, "c31;", 1, 2);
        fault(c, "c1;b10,1,1;", 4, 2);
        fault(c, "c1;b01,10,1;", 7, 2);
        fault(c, "c1;b01,01,10;", 10, 2);
        fault(c, "c1;12", 3, 1);
    }

    private static void leastOfOneToken(Check c) {
        c.holds(7, "of one TOKEN the least");
        fault(c, "c100;", 1, 1);
        fault(c, "c000;", 1, 1);
        fault(c, "c1;99", 3, 1);
        fault(c, "c1;b1,1,1;99", 10, 1);
        fault(c, SIX + "z", SIX.length(), 1);
        fault(c, SIX + "c", SIX.length(), 1);
        fault(c, SIX + "99", SIX.length(), 1);
        fault(c, SIX + ";", SIX.length(), 1);
    }

    /** At each place of a TOKEN comes each other kind of TOKEN. */
    private static void cannotStandThere(Check c) {
        c.holds(7, "1 it cannot stand there, or is none");
        for (int t = 0; t < PLACES.length; t++) {
            int i = PLACES[t];
            char due = TEXT.charAt(i);
            boolean number = Character.isDigit(due);
            String[] others = {"x", ",", ";", "!", "c", "b"};
            for (String other : others) {
                boolean fits = other.charAt(0) == due || other.equals("b") && due == 'e';
                if (!fits) {
                    fault(c, TEXT.substring(0, i) + other, i, 1);
                }
            }
            if (!number && !Character.isDigit(TEXT.charAt(Math.max(0, i - 1)))) {
                fault(c, TEXT.substring(0, i) + "1", i, 1);
            }
        }
    }

    private static void threeFigures(Check c) {
        c.holds(7, "a run of three figures, at its first");
        String[] runs = {"000", "001", "100", "999", "1234", "12345678", "000000000000000000001"};
        for (String run : runs) {
            fault(c, run, 0, 1);
            fault(c, "c" + run + ";", 1, 1);
            fault(c, "c" + run, 1, 1);
            fault(c, "c1;" + run, 3, 1);
            fault(c, "c1;b" + run + ",1,1;", 4, 1);
            fault(c, "c1;b1," + run + ",1;", 6, 1);
            fault(c, "c1;b1,1," + run + ";", 8, 1);
            fault(c, SIX + run, SIX.length(), 1);
        }
    }

    /** Whatever is there of a text: it ends too soon, but behind a law, or a letter. */
    private static void theEnd(Check c) {
        c.holds(7, "the end: how many bytes there are");
        for (int n = 0; n <= TEXT.length(); n++) {
            boolean whole = n == 4 || n == 12 || n == 21;
            fault(c, TEXT.substring(0, n), whole ? NO_FAULT : n, whole ? NO_FAULT : 1);
        }
        fault(c, "c31", 1, 2);
    }

    private static void notAsTold(Check c) {
        c.holds(7, "2 a NUMBER that is not as told");
        fault(c, "c0;", 1, 2);
        fault(c, "c00;", 1, 2);
        fault(c, "c31;", 1, 2);
        fault(c, "c99;", 1, 2);
        fault(c, "c0", 1, 2);
        fault(c, "c1;b10", 4, 2);
        fault(c, "c1;b1,0", 6, 2);
        fault(c, "c1;b1,00,", 6, 2);
        fault(c, "c1;b1,10,", 6, 2);
        fault(c, "c1;b1,1,10", 8, 2);
    }

    private static void noRoom(Check c) {
        c.holds(7, "3 a letter more than there is room for (its letter)");
        good(c, SIX);
        for (char sort : "bdsne".toCharArray()) {
            fault(c, SIX + sort, SIX.length(), 3);
            fault(c, SIX + sort + "1,1,1;", SIX.length(), 3);
            fault(c, SIX + sort + "999", SIX.length(), 3);
            fault(c, SIX + sort + sort, SIX.length(), 3);
        }
        good(c, SIX.substring(0, SIX.length() - 7) + "b1,1,1;");
    }

    /** The longest text: all NUMBERS of two figures. */
    private static void placesOfFaults(Check c) {
        c.holds(7, "-1000100 less the place of a FAULT");
        String longest = "c30;" + "b09,09,09;".repeat(6);
        ClockPost x = new ClockPost();
        c.due("it is good", Check.read(x, longest), 6);
        c.due("place 0", Check.read(x, "C"), -1000100);
        c.due("place 63", Check.read(x, longest.substring(0, 63)), -1000163);
        c.due("place 64", Check.read(x, longest + "b"), -1000164);
    }

    private static int[] allOf(ClockPost x) {
        List<Integer> all = new ArrayList<>();
        for (int i = 0; i < 6; i++) {
            for (int told : Check.letter(x, i)) {
                all.add(told);
            }
            all.add(x.kind(i));
        }
        for (int told : Check.counts(x)) {
            all.add(told);
        }
        for (int body : Check.trace(x)) {
            all.add(body);
        }
        all.add(x.status());
        return all.stream().mapToInt(i -> i).toArray();
    }

    private static void allElseStays(Check c) {
        c.holds(7, "all but the tape, that is empty then, and what fault() tells stays");
        String[] texts = {"", "x", "c9;e9,9,9;e9,9,9;e9,9", "c9;e9,9,9;e9,9,10;", "c8;" + SIX.substring(3) + "b"};
        for (String text : texts) {
            ClockPost x = worn();
            x.ask(0, 0);
            x.as(0, 5);
            int[] before = allOf(x);
            c.due("a fault of " + text, Check.read(x, text) < 0 ? 1 : 0, 1);
            c.due("what was there behind " + text, allOf(x), before);
            c.due("the answer is undone", x.undo(), 5);
            c.due("a day, too", new int[] {x.undo(), x.count(2), x.count(5)}, 4, 4, 25);
            c.due("images", new int[] {x.restore(0), x.restore(1)}, 1, 1);
        }
    }

    private static void faultStays(Check c) {
        c.holds(8, "(it stays behind a HOUSE without one)");
        ClockPost x = new ClockPost();
        Check.read(x, "c0;");
        c.due("a fault", x.fault(), 2);
        c.due("a house without one", Check.read(x, "c1;"), 0);
        c.due("it stays", x.fault(), 2);
        Check.read(x, SIX + "b");
        c.due("another", x.fault(), 3);
        Check.read(x, TEXT);
        c.due("stays, too", x.fault(), 3);
    }

    private static void noFaultAtFirst(Check c) {
        c.holds(8, "0 before one");
        ClockPost x = new ClockPost();
        c.due("at first", x.fault(), 0);
        Check.read(x, TEXT);
        c.due("behind a house", x.fault(), 0);
        x.feed(256);
        x.drop(0);
        c.due("behind other refusals", x.fault(), 0);
    }

    private static void latestFault(Check c) {
        c.holds(8, "The number of the latest FAULT");
        ClockPost x = new ClockPost();
        String[] texts = {"x", "c0;", SIX + "b", "c0;", "x", SIX + "e"};
        int[] due = {1, 2, 3, 2, 1, 3};
        for (int i = 0; i < texts.length; i++) {
            Check.read(x, texts[i]);
            c.due(texts[i], x.fault(), due[i]);
        }
    }
}
