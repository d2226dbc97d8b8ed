/** Promises 1 (a new object), 6 (feed), 7 (house), 8 (fault). */
public final class TapeTest {
    private static final int BAD = ClockPost.BAD, STATE = ClockPost.STATE, FULL = ClockPost.FULL;

    public static void main(String[] args) {
        Check check = new Check();
        testNewObject(check);
        testFeed(check);
        testHouses(check);
        testFaults(check);
        testBytesReadBefore(check);
        testAllBytes(check);
        testFaultChangesNothing(check);
        testHouseInPlaceOfAnother(check);
        check.end();
    }

    private static void testNewObject(Check c) {
        ClockPost x = new ClockPost();
        for (int what = 0; what < 10; what++) {
            c.due("count " + what, x.count(what), 0);
        }
        c.due("fault", x.fault(), 0);
        c.due("status", x.status(), 0);
        c.due("no house", x.burden(0), STATE);
        c.due("no letter", x.letter(0, 0), BAD);
        c.due("no image", x.restore(0), STATE);
        c.due("no other image", x.restore(1), STATE);
        c.due("no act", x.undo(), STATE);
        c.due("no trace", x.trace(0), ClockPost.NONE);
    }

    private static void testFeed(Check c) {
        ClockPost x = new ClockPost();
        c.due("-1", x.feed(-1), BAD);
        c.due("256", x.feed(256), BAD);
        for (int i = 1; i <= 100; i++) {
            c.due("byte " + i, x.feed(i % 2 == 0 ? 0 : 255), i);
        }
        c.due("one more", x.feed(0), FULL);
        c.due("BAD ahead of FULL", x.feed(256), BAD);
        c.due("bytes on the tape", x.count(7), 100);
        c.due("read", x.house(), -1000100);
        c.due("empty then", x.count(7), 0);
        c.due("room again", x.feed(7), 1);
    }

    private static int read(ClockPost x, String text) {
        Check.feed(x, text);
        return x.house();
    }

    private static void testHouses(Check c) {
        ClockPost x = new ClockPost();
        c.due("law alone", read(x, "c1;"), 0);
        c.due("a house without letters stands", x.burden(0), 0);
        c.due("gap", x.count(9), 1);
        c.due("most gap", read(x, "c30;b0,1,0;"), 1);
        c.due("gap 30", x.count(9), 30);
        c.due("figures with 0 ahead", read(x, "c07;d09,01,00;n00,09,09;"), 2);
        c.due("gap 7", x.count(9), 7);
        c.due("letter 0", Check.letter(x, 0), 9, 1, 0, 1, 0, 18);
        c.due("letter 1", Check.letter(x, 1), 0, 9, 9, 1, 0, 0);
        c.due("six, one of each", read(x, "c9;b1,2,3;d4,5,6;s7,8,9;n1,1,1;e2,2,2;b9,9,9;"), 6);
        c.due("kinds", new int[] {x.kind(0), x.kind(1), x.kind(2), x.kind(3), x.kind(4), x.kind(5)}, 1, 2, 3, 4, 5, 1);
        c.due("all are behind, none falls", x.count(3), 63);
        c.due("no fault", x.fault(), 0);
    }

    private static void fault(Check c, String text, int number, int place) {
        ClockPost x = new ClockPost();
        c.due("place in " + text, read(x, text), -1000100 - place);
        c.due("fault in " + text, x.fault(), number);
        c.due("no house of " + text, x.burden(0), STATE);
        c.due("tape behind " + text, x.count(7), 0);
    }

    private static void testFaults(Check c) {
        fault(c, "", 1, 0);
        fault(c, "b", 1, 0);
        fault(c, "1;", 1, 0);
        fault(c, " c1;", 1, 0);
        fault(c, "C1;", 1, 0);
        fault(c, "c", 1, 1);
        fault(c, "c;", 1, 1);
        fault(c, "c 1;", 1, 1);
        fault(c, "c-1;", 1, 1);
        fault(c, "c0;", 2, 1);
        fault(c, "c00;", 2, 1);
        fault(c, "c31;", 2, 1);
        fault(c, "c99", 2, 1);
        fault(c, "c001;", 1, 1);
        fault(c, "c1000;", 1, 1);
        fault(c, "c999", 1, 1);
        fault(c, "c1", 1, 2);
        fault(c, "c12", 1, 3);
        fault(c, "c1,", 1, 2);
        fault(c, "c1;;", 1, 3);
        fault(c, "c1;1", 1, 3);
        fault(c, "c1;c1;", 1, 3);
        fault(c, "c1;a", 1, 3);
        fault(c, "c1;b", 1, 4);
        fault(c, "c1;bb", 1, 4);
        fault(c, "c1;b10,1,1;", 2, 4);
        fault(c, "c1;b100,1,1;", 1, 4);
        fault(c, "c1;b9", 1, 5);
        fault(c, "c1;b9;", 1, 5);
        fault(c, "c1;b9,", 1, 6);
        fault(c, "c1;b9,0,1;", 2, 6);
        fault(c, "c1;b9,10,1;", 2, 6);
        fault(c, "c1;b9,123,1;", 1, 6);
        fault(c, "c1;b9,1,10;", 2, 8);
        fault(c, "c1;b9,1,", 1, 8);
        fault(c, "c1;b9,1,a;", 1, 8);
        fault(c, "c1;b9,1,1", 1, 9);
        fault(c, "c1;b9,1,1,", 1, 9);
        fault(c, "c1;b09,01,01", 1, 12);
        String six = "c1;b1,1,1;d1,1,1;s1,1,1;n1,1,1;e1,1,1;b1,1,1;";
        fault(c, six + "b", 3, 45);
        fault(c, six + "e99", 3, 45);
        fault(c, six + "n1,1,1;", 3, 45);
        fault(c, six + "z1,1,1;", 1, 45);
        fault(c, six + ";", 1, 45);
        fault(c, six + "111", 1, 45);
        fault(c, "c1;b1,1,1;d1,1,1;s1,1,1;n1,1,1;e1,1,1;b1,0,1;b", 2, 41);
    }

    private static void testBytesReadBefore(Check c) {
        ClockPost x = new ClockPost();
        c.due("a house", read(x, "c12;b1,2,3;"), 1);
        c.due("its end is not there any more", read(x, "c1"), -1000102);
        c.due("nor its law", read(x, ""), -1000100);
        c.due("nor its letter", read(x, "c12;b1"), -1000106);
        c.due("nor one", read(x, "c12;"), 0);
        c.due("nobody is behind", x.count(3), 0);
    }

    private static void testAllBytes(Check c) {
        for (int b = 0; b < 256; b++) {
            ClockPost x = new ClockPost();
            Check.feed(x, "c1;");
            x.feed(b);
            boolean sort = b == 'b' || b == 'd' || b == 's' || b == 'n' || b == 'e';
            c.due("byte " + b + " for a sort", x.house(), sort ? -1000104 : -1000103);
            c.due("its fault", x.fault(), 1);
        }
    }

    private static void testFaultChangesNothing(Check c) {
        ClockPost x = Check.house("c9;b1,2,3;n4,5,6;");
        x.days(2);
        x.ask(0, 0);
        c.due("a fault", read(x, "c5;b1,1,1;n1,77,1;"), -1000113);
        c.due("fault", x.fault(), 2);
        c.due("letters", x.count(1), 2);
        c.due("gap", x.count(9), 9);
        c.due("day", x.count(2), 2);
        c.due("acts", x.count(6), 2);
        c.due("letter 0", Check.letter(x, 0), 1, 2, 3, 1, 2, 3);
        c.due("letter 1", Check.letter(x, 1), 4, 5, 6, 1, 2, 4);
        c.due("trace", Check.trace(x), 11, 10, 21, 20);
        c.due("a house", read(x, "c5;"), 0);
        c.due("the fault stays", x.fault(), 2);
        c.due("another fault", read(x, "x"), -1000100);
        c.due("the latest", x.fault(), 1);
    }

    private static void testHouseInPlaceOfAnother(Check c) {
        ClockPost x = Check.house("c4;b1,2,3;n4,3,9;");
        x.row(2, 0, 5);
        x.image(1);
        x.days(3);
        c.due("sorrow", x.count(8), 9);
        c.due("what was foretold of it", x.burden(60), 64);
        c.due("another house", read(x, "c9;s5,5,5;"), 1);
        int[] counts = new int[10];
        for (int what = 0; what < 10; what++) {
            counts[what] = x.count(what);
        }
        c.due("counts", counts, 1, 1, 0, 1, 5, 0, 0, 0, 0, 9);
        c.due("letter", Check.letter(x, 0), 5, 5, 5, 1, 0, 5);
        c.due("the letter before is none", x.letter(1, 0), BAD);
        c.due("no act", x.undo(), STATE);
        c.due("the image stays", x.restore(1), 1);
        c.due("two letters again", x.count(1), 2);
        c.due("the row stays", x.drop(2), 5);
    }
}
