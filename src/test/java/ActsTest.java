/** Promises 9 (days), 10 (answer), 11 (post), 12 (dread), 13 (undo), 14 (letter), 26 (image), 27 (restore). */
public final class ActsTest {
    private static final int BAD = ClockPost.BAD, STATE = ClockPost.STATE, FULL = ClockPost.FULL;

    public static void main(String[] args) {
        Check check = new Check();
        testWeights(check);
        testDays(check);
        testLastDay(check);
        testMostAge(check);
        testMostSum(check);
        testFalling(check);
        testAnswer(check);
        testPost(check);
        testDread(check);
        testUndo(check);
        testOldestActsForgotten(check);
        testLetterRefused(check);
        testImages(check);
        check.end();
    }

    private static int[] weights(ClockPost x, int letters) {
        int[] weights = new int[letters];
        for (int i = 0; i < letters; i++) {
            weights[i] = x.letter(i, 5);
        }
        return weights;
    }

    private static void testWeights(Check c) {
        ClockPost x = Check.house("c30;b3,1,0;d4,1,0;s5,1,0;n6,1,0;e7,1,0;e0,1,0;");
        c.due("at first", weights(x, 6), 3, 8, 5, 6, 12, 5);
        x.days(8);
        c.due("age 8", weights(x, 6), 11, 24, 13, 6, 12, 5);
        x.days(1);
        c.due("age 9", weights(x, 6), 12, 26, 0, 6, 12, 5);
        x.answer(2);
        x.answer(4);
        c.due("two less", weights(x, 6), 12, 26, 0, 6, 0, 3);
    }

    private static void testDays(Check c) {
        ClockPost x = new ClockPost();
        c.due("no house", x.days(1), STATE);
        c.due("no house ahead of BAD", x.days(0), STATE);
        x = Check.house("c9;b1,1,1;d2,2,2;");
        c.due("0", x.days(0), BAD);
        c.due("25", x.days(25), BAD);
        c.due("least", x.days(Integer.MIN_VALUE), BAD);
        c.due("most", x.days(Integer.MAX_VALUE), BAD);
        c.due("nothing went by", x.count(2), 0);
        c.due("one", x.days(1), 3);
        c.due("sum is the burden before", x.count(5), 5);
        c.due("an act", x.count(6), 1);
        c.due("three", x.days(3), 3);
        c.due("sum", x.count(5), 5 + 8 + 11 + 14);
        c.due("acts", x.count(6), 4);
        c.due("day", x.count(2), 4);
        x.answer(0);
        c.due("one of them", x.days(24), 2);
        c.due("its age stays", x.letter(0, 4), 4);
        c.due("the other's age", x.letter(1, 4), 28);
    }

    private static void testLastDay(Check c) {
        ClockPost x = Check.house("c9;n0,1,1;");
        for (int i = 0; i < 41; i++) {
            x.days(24);
        }
        c.due("day 984", x.count(2), 984);
        c.due("beyond 999", x.days(16), FULL);
        c.due("BAD ahead of FULL", x.days(25), BAD);
        c.due("nothing went by", x.count(2), 984);
        c.due("up to 999", x.days(15), 1);
        c.due("day 999", x.count(2), 999);
        c.due("full", x.days(1), FULL);
        c.due("foretold all the same", x.behind(60), 1);
        x.undo();
        c.due("room for one", x.days(1), 1);
    }

    private static void testMostAge(Check c) {
        ClockPost x = Check.house("c9;b0,1,1;");
        for (int i = 0; i < 4; i++) {
            x.days(24);
        }
        x.days(3);
        c.due("age 99", x.letter(0, 4), 99);
        c.due("sum", x.count(5), 98 * 99 / 2);
        x.days(1);
        c.due("no more", x.letter(0, 4), 99);
        x.days(1);
        c.due("sum goes on by 99", x.count(5), 98 * 99 / 2 + 99 + 99);
        c.due("burden foretold", x.burden(60), 99);
    }

    private static void testMostSum(Check c) {
        ClockPost x = Check.house("c9;d9,1,1;d9,1,1;d9,1,1;d9,1,1;d9,1,1;d9,1,1;");
        x.days(24);
        x.days(7);
        // 12 times (9 + age) a day
        c.due("sum below", x.count(5), 12 * (31 * 9 + 30 * 31 / 2));
        c.due("foretold below", x.sum(2), 9900);
        c.due("foretold most", x.sum(3), 9999);
        c.due("order grows by less", x.order(1, -1), 10 * (9 + 31));
        x.days(24);
        c.due("sum at most", x.count(5), 9999);
        c.due("burden", x.burden(0), 12 * (9 + 55));
        c.due("order as if there were no most", x.order(1, -1), 10 * (9 + 55));
        c.due("drawn keeps the most", x.drawn(9, 1, 0), 9999);
    }

    private static void testFalling(Check c) {
        ClockPost x = Check.house("c5;b0,3,1;b0,3,2;b0,2,5;b0,3,4;");
        c.due("none at first", x.count(3), 15);
        c.due("two of the thickest, by numbers", x.days(1), 12);
        c.due("sorrow", x.count(8), 3);
        c.due("thickness", x.count(4), 5);
        c.due("fallen ones' age", x.letter(0, 4), 1);
        x.post(0);
        c.due("the older falls", x.days(1), 5);
        c.due("sorrow of that", x.count(8), 7);
        x.post(1);
        c.due("the oldest of the thickest", x.days(1), 6);
        c.due("sorrow of this", x.count(8), 8);
        x = Check.house("c1;b0,9,9;n0,2,9;");
        c.due("all fall", x.days(1), 0);
        c.due("sorrow of all", x.count(8), 18);
        c.due("thickness of none", x.count(4), 0);
        x = Check.house("c3;b0,3,9;");
        c.due("gap is enough", x.days(1), 1);
        x = Check.house("c1;b0,1,9;e0,2,0;");
        c.due("the thickest, not the first", x.days(1), 1);
    }

    private static void testAnswer(Check c) {
        ClockPost x = Check.house("c30;b1,4,7;b1,2,6;n1,1,1;");
        c.due("-1", x.answer(-1), BAD);
        c.due("3", x.answer(3), BAD);
        c.due("half of 7", x.answer(0), 3);
        c.due("again", x.answer(0), STATE);
        c.due("half of 6", x.answer(1), 6);
        c.due("half of 1", x.answer(2), 6);
        c.due("none is behind", x.count(3), 0);
        c.due("acts", x.count(6), 3);
        c.due("told of an answered one", Check.letter(x, 0), 1, 4, 7, 0, 0, 0);
    }

    private static void testPost(Check c) {
        ClockPost x = Check.house("c30;b1,4,7;b1,2,6;");
        x.days(3);
        c.due("-1", x.post(-1), BAD);
        c.due("2", x.post(2), BAD);
        c.due("it is", x.post(0), STATE);
        x.answer(0);
        c.due("age as it was", x.letter(0, 4), 3);
        c.due("put again", x.post(0), 6);
        c.due("as new", Check.letter(x, 0), 1, 4, 7, 1, 0, 1);
        c.due("acts", x.count(6), 5);
        c.due("sorrow stays", x.count(8), 3);
    }

    private static void testDread(Check c) {
        ClockPost x = Check.house("c30;b1,4,7;b8,2,6;");
        c.due("-1", x.dread(-1, 0), BAD);
        c.due("2", x.dread(2, 0), BAD);
        c.due("v -1", x.dread(0, -1), BAD);
        c.due("v 10", x.dread(0, 10), BAD);
        c.due("9", x.dread(0, 9), 1);
        c.due("0", x.dread(0, 0), 9);
        c.due("the same", x.dread(1, 8), 8);
        c.due("acts", x.count(6), 3);
        x.answer(1);
        c.due("one that is not behind", x.dread(1, 4), 8);
        c.due("its fear", x.letter(1, 0), 4);
        c.due("other letter's fear", x.letter(0, 0), 0);
    }

    private static void testUndo(Check c) {
        ClockPost x = Check.house("c5;b1,4,7;d8,2,6;");
        c.due("none", x.undo(), STATE);
        x.dread(1, 3);
        x.dread(1, 3);
        x.days(2);
        x.post(0);
        x.answer(1);
        c.due("acts", x.count(6), 6);
        c.due("answer undone", x.undo(), 5);
        c.due("behind again", Check.letter(x, 1), 3, 2, 6, 1, 2, 10);
        c.due("sorrow", x.count(8), 7);
        c.due("post undone", x.undo(), 4);
        c.due("fallen again", Check.letter(x, 0), 1, 4, 7, 0, 1, 0);
        c.due("a day undone", x.undo(), 3);
        c.due("day", x.count(2), 1);
        c.due("sum", x.count(5), 7);
        c.due("the day before, too", x.undo(), 2);
        c.due("not fallen", Check.letter(x, 0), 1, 4, 7, 1, 0, 1);
        c.due("sorrow, too", x.count(8), 0);
        c.due("nothing became another", x.undo(), 1);
        c.due("fear stays", x.letter(1, 0), 3);
        c.due("the first", x.undo(), 0);
        c.due("fear", x.letter(1, 0), 8);
        c.due("none any more", x.undo(), STATE);
    }

    private static void testOldestActsForgotten(Check c) {
        ClockPost x = Check.house("c5;b0,4,7;");
        for (int i = 1; i <= 30; i++) {
            x.dread(0, i % 10);
        }
        c.due("24 are kept", x.count(6), 24);
        for (int i = 29; i >= 6; i--) {
            c.due("undone", x.undo(), i - 6);
            c.due("fear then", x.letter(0, 0), i % 10);
        }
        c.due("older ones are forgotten", x.undo(), STATE);
        x.dread(0, 1);
        c.due("kept again", x.count(6), 1);
        c.due("and undone", x.undo(), 0);
        c.due("fear 6", x.letter(0, 0), 6);
    }

    private static void testLetterRefused(Check c) {
        ClockPost x = Check.house("c5;b0,4,7;");
        c.due("letter -1", x.letter(-1, 0), BAD);
        c.due("letter 1", x.letter(1, 0), BAD);
        c.due("what -1", x.letter(0, -1), BAD);
        c.due("what 6", x.letter(0, 6), BAD);
    }

    private static void testImages(Check c) {
        ClockPost x = new ClockPost();
        c.due("no house", x.image(0), STATE);
        c.due("BAD ahead of STATE", x.image(-1), BAD);
        c.due("image 2", x.image(2), BAD);
        c.due("none kept", x.restore(1), STATE);
        c.due("restore 2", x.restore(2), BAD);
        c.due("restore -1", x.restore(-1), BAD);
        Check.feed(x, "c5;b1,4,7;d8,2,6;");
        x.house();
        x.days(1);
        c.due("kept", x.image(0), 1);
        c.due("the other is none", x.restore(1), STATE);
        c.due("acts stay", x.count(6), 1);
        x.dread(1, 0);
        x.post(0);
        x.answer(1);
        x.image(1);
        Check.feed(x, "c9;n9,9,9;");
        x.house();
        x.days(5);
        c.due("restored", x.restore(0), 1);
        int[] counts = {x.count(1), x.count(2), x.count(3), x.count(4), x.count(5), x.count(6), x.count(8), x.count(9)};
        c.due("counts", counts, 2, 1, 2, 2, 17, 0, 7, 5);
        c.due("letter 0", Check.letter(x, 0), 1, 4, 7, 0, 1, 0);
        c.due("letter 1", Check.letter(x, 1), 8, 2, 6, 1, 1, 18);
        c.due("no act can be undone", x.undo(), STATE);
        x.days(3);
        c.due("restored again", x.restore(0), 1);
        c.due("as it was kept", x.count(2), 1);
        c.due("the other one", x.restore(1), 1);
        c.due("its letter 1", Check.letter(x, 1), 0, 2, 6, 0, 1, 0);
        c.due("its letter 0", Check.letter(x, 0), 1, 4, 7, 1, 0, 1);
        x.image(0);
        x.days(1);
        x.restore(0);
        c.due("kept in place of the one before", Check.letter(x, 1), 0, 2, 6, 0, 1, 0);
    }
}
