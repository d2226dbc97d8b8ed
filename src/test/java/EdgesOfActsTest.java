/**
 * Each sentence about ACTS and IMAGES that names an edge: promises 9 (days), 10 (answer), 11 (post), 12 (dread), 13 (undo),
 * 14 (letter), 26 (image), 27 (restore).
 */
public final class EdgesOfActsTest {
    private static final int BAD = ClockPost.BAD, STATE = ClockPost.STATE, FULL = ClockPost.FULL;
    private static final int MIN = Integer.MIN_VALUE, MAX = Integer.MAX_VALUE;
    private static final int[] NO_LETTERS = {-1, 2, 6, MIN, MAX};

    public static void main(String[] args) {
        Check check = new Check();
        daysRange(check);
        daysAnActEach(check);
        daysWithoutHouse(check);
        daysBeyondTheLast(check);
        daysRefusals(check);
        dayCounts(check);
        dayMostSum(check);
        daySumIsTheBurdenBefore(check);
        dayMostAge(check);
        dayAgeOfThoseBehind(check);
        dayGap(check);
        dayFallsAsLongAs(check);
        dayThickest(check);
        dayOldest(check);
        dayLeast(check);
        dayWholeSorrow(check);
        mostSorrow(check);
        weightOfBills(check);
        weightOfStaleOnes(check);
        weightOfNotes(check);
        weightOfBlackOnes(check);
        weightOfNothing(check);
        together(check);
        answerRefusals(check);
        answerHalf(check);
        answerThen(check);
        postRefusals(check);
        postAgain(check);
        postThickness(check);
        dreadRange(check);
        dreadRefusals(check);
        undoDay(check);
        undoAnswer(check);
        undoPost(check);
        undoDread(check);
        undoNothing(check);
        undoMost(check);
        undoOldestForgotten(check);
        undoRing(check);
        undoLatestFirst(check);
        undoNone(check);
        undoHowMany(check);
        letterNumbers(check);
        letterAge(check);
        letterBehind(check);
        imageNumbers(check);
        imageWithoutHouse(check);
        imageKept(check);
        restoreNone(check);
        restoreNumbers(check);
        restoreAsKept(check);
        restoreOtherSizes(check);
        restoreNoActs(check);
        check.end(9, 10, 11, 12, 13, 14, 26, 27);
    }

    /** AGE of a LETTER. */
    private static int age(ClockPost x, int letter) {
        return x.letter(letter, 4);
    }

    private static int weight(ClockPost x, int letter) {
        return x.letter(letter, 5);
    }

    private static void daysRange(Check c) {
        c.holds(9, "n DAYS (1 to 24)");
        ClockPost x = Check.house("c9;b0,1,0;");
        int[] none = {0, -1, 25, MIN, MAX};
        for (int n : none) {
            c.due("days " + n, x.days(n), BAD);
        }
        c.due("no day", x.count(2), 0);
        c.due("1", x.days(1), 1);
        c.due("24", x.days(24), 1);
        c.due("25 days", x.count(2), 25);
    }

    private static void daysAnActEach(Check c) {
        c.holds(9, "an ACT each");
        ClockPost x = Check.house("c9;b0,1,0;");
        x.days(24);
        c.due("acts", x.count(6), 24);
        for (int day = 23; day >= 0; day--) {
            c.due("one undone", x.undo(), day);
            c.due("DAY, AGE", new int[] {x.count(2), age(x, 0)}, day, day);
        }
    }

    private static void daysWithoutHouse(Check c) {
        c.holds(9, "STATE: no HOUSE (ahead of BAD)");
        ClockPost x = new ClockPost();
        int[] any = {1, 24, 0, 25, MIN, MAX};
        for (int n : any) {
            c.due("days " + n, x.days(n), STATE);
        }
        Check.read(x, "c9;");
        c.due("a house without letters is one", x.days(1), 0);
    }

    private static void daysBeyondTheLast(Check c) {
        c.holds(9, "FULL: beyond DAY 999");
        ClockPost x = Check.house("c9;b0,1,0;");
        Check.pass(x, 990);
        int sum = x.count(5);
        c.due("one too many", x.days(10), FULL);
        c.due("nothing went by", new int[] {x.count(2), x.count(5), x.count(6)}, 990, sum, 24);
        c.due("up to it", x.days(9), 1);
        c.due("DAY", x.count(2), 999);
        c.due("one more", x.days(1), FULL);
        c.due("24 more", x.days(24), FULL);
        x.undo();
        c.due("an undone one", x.days(1), 1);
        c.due("DAY again", x.count(2), 999);
    }

    private static void daysRefusals(Check c) {
        c.holds(9, "the first of these that fits");
        ClockPost x = Check.house("c9;b0,1,0;");
        Check.pass(x, 999);
        int[] none = {0, -1, 25, MAX};
        for (int n : none) {
            c.due("BAD ahead of FULL, " + n, x.days(n), BAD);
        }
        c.due("FULL", x.days(1), FULL);
    }

    private static void dayCounts(Check c) {
        c.holds(9, "DAY is 1 more");
        ClockPost x = Check.house("c9;");
        c.due("at first", x.count(2), 0);
        x.days(1);
        c.due("one", x.count(2), 1);
        x.days(23);
        c.due("24", x.count(2), 24);
    }

    private static void dayMostSum(Check c) {
        c.holds(9, "SUM is the BURDEN more (9999 at most)");
        ClockPost x = Check.house("c30;d9,1,0;d9,1,0;d9,1,0;d9,1,0;d9,1,0;n9,1,0;");
        Check.pass(x, 36);
        c.due("99 and 10 more each day", x.count(5), 36 * 99 + 10 * 35 * 36 / 2);
        for (int i = 0; i < 5; i++) {
            x.answer(i);
        }
        x.days(14);
        c.due("9 less than the most", x.count(5), 9990);
        c.due("foretold", new int[] {x.sum(1), x.sum(2), x.sum(60)}, 9999, 9999, 9999);
        x.days(1);
        c.due("the most", x.count(5), 9999);
        x.days(1);
        c.due("no more", x.count(5), 9999);
        x.post(0);
        x.days(24);
        c.due("never more", new int[] {x.count(5), x.sum(60), x.drawn(60, 1, 0)}, 9999, 9999, 9999);
    }

    private static void daySumIsTheBurdenBefore(Check c) {
        c.holds(9, "A DAY: SUM is the BURDEN more");
        ClockPost x = Check.house("c4;b3,3,0;b5,4,0;");
        x.days(1);
        c.due("the fallen one's, too, of AGE 0", x.count(5), 8);
        x.days(1);
        c.due("the other's, of AGE 1", x.count(5), 8 + 4);
    }

    private static void dayMostAge(Check c) {
        c.holds(9, "AGE of all BEHIND is 1 more (99 at most)");
        ClockPost x = Check.house("c9;b0,1,0;");
        Check.pass(x, 98);
        c.due("98", age(x, 0), 98);
        c.due("foretold", new int[] {x.burden(0), x.burden(1), x.burden(2), x.burden(60)}, 98, 99, 99, 99);
        x.days(1);
        c.due("99", age(x, 0), 99);
        x.days(1);
        c.due("no more", age(x, 0), 99);
        x.days(24);
        c.due("never more", new int[] {age(x, 0), weight(x, 0)}, 99, 99);
    }

    private static void dayAgeOfThoseBehind(Check c) {
        c.holds(9, "AGE of all BEHIND is 1 more");
        ClockPost x = Check.house("c9;b0,1,0;n0,1,0;e0,1,0;");
        x.days(2);
        x.answer(1);
        x.days(3);
        c.due("ages", new int[] {age(x, 0), age(x, 1), age(x, 2)}, 5, 2, 5);
    }

    private static void dayGap(Check c) {
        c.holds(9, "as long as THICKNESS is more than GAP");
        ClockPost x = Check.house("c5;n0,3,9;n0,2,9;");
        c.due("as much as GAP", x.days(1), 3);
        c.due("no sorrow", x.count(8), 0);
        x = Check.house("c4;n0,3,9;n0,2,9;");
        c.due("1 more than GAP", x.days(1), 2);
        c.due("THICKNESS", x.count(4), 2);
    }

    private static void dayFallsAsLongAs(Check c) {
        c.holds(9, "Then, as long as THICKNESS is more than GAP");
        ClockPost x = Check.house("c3;n0,1,1;n0,2,1;n0,3,1;n0,4,1;n0,5,1;n0,6,1;");
        c.due("as many as must", x.days(1), 3);
        c.due("SORROW", x.count(8), 4);
        x = Check.house("c1;n0,2,1;n0,2,1;n0,2,1;n0,2,1;n0,2,1;n0,2,1;");
        c.due("all", x.days(1), 0);
        c.due("SORROW of all", x.count(8), 6);
        c.due("nothing more", new int[] {x.days(1), x.count(8)}, 0, 6);
    }

    private static void dayThickest(Check c) {
        c.holds(9, "of those BEHIND the one with most THICK");
        ClockPost x = Check.house("c9;n0,2,0;n0,5,0;n0,3,0;");
        c.due("the thickest", x.days(1), 5);
        x = Check.house("c5;n0,9,0;n0,2,0;n0,4,0;");
        x.answer(0);
        c.due("of those behind", x.days(1), 2);
        x = Check.house("c9;n0,9,0;n0,2,0;");
        x.answer(0);
        x.days(5);
        x.post(0);
        c.due("thick ahead of old", x.days(1), 2);
    }

    private static void dayOldest(Check c) {
        c.holds(9, "of several the oldest");
        ClockPost x = Check.house("c6;n0,3,0;n0,3,0;n0,3,0;");
        x.answer(0);
        x.answer(1);
        x.days(1);
        x.post(1);
        x.days(1);
        x.post(0);
        c.due("ages", new int[] {age(x, 0), age(x, 1), age(x, 2)}, 0, 1, 2);
        c.due("the oldest", x.days(1), 3);
        x.post(2);
        c.due("the oldest then", x.days(1), 5);
    }

    private static void dayLeast(Check c) {
        c.holds(9, "of these the least, FALLS");
        ClockPost x = Check.house("c6;n0,3,0;n0,3,0;n0,3,0;");
        c.due("the least", x.days(1), 6);
        x = Check.house("c18;n0,9,0;n0,9,0;n0,9,0;");
        x.answer(0);
        x.answer(2);
        x.days(9);
        x.post(0);
        Check.pass(x, 99);
        c.due("both have the most AGE", new int[] {age(x, 0), age(x, 1)}, 99, 99);
        x.post(2);
        c.due("the least of those", x.days(1), 6);
    }

    private static void dayWholeSorrow(Check c) {
        c.holds(9, "it is not BEHIND any more, SORROW is HOLDS more");
        for (int holds = 0; holds < 10; holds++) {
            ClockPost x = Check.house("c1;n0,2," + holds + ";");
            c.due("nobody is behind", x.days(1), 0);
            c.due("sorrow of " + holds, x.count(8), holds);
        }
    }

    /** In 512 calls SORROW cannot come so far: this run is longer than the document promises, and holds here all the same. */
    private static void mostSorrow(Check c) {
        c.holds(10, "(SORROW is 9999 at most.)");
        ClockPost x = Check.house("c1;n0,9,9;n0,9,9;n0,9,9;n0,9,9;n0,9,9;n0,9,3;");
        x.days(1);
        for (int i = 1; i < 208; i++) {
            for (int letter = 0; letter < 6; letter++) {
                x.post(letter);
            }
            x.days(1);
        }
        c.due("48 each day", x.count(8), 208 * 48);
        int[] answered = {0, 1, 5, 5, 5, 5, 5, 5, 5, 5, 0};
        int[] due = {9988, 9992, 9993, 9994, 9995, 9996, 9997, 9998, 9999, 9999, 9999};
        for (int i = 0; i < answered.length; i++) {
            x.post(answered[i]);
            c.due("answered", x.answer(answered[i]), due[i]);
        }
        x.undo();
        x.undo();
        x.undo();
        x.undo();
        x.undo();
        x.undo();
        c.due("1 less than the most", x.count(8), 9998);
        x.post(0);
        x.days(1);
        c.due("one that falls", x.count(8), 9999);
        c.due("drawn", x.drawn(60, 1, 1), 9999);
    }

    private static void weightOfBills(Check c) {
        c.holds(14, "a bill FEAR and AGE; a dun twice that");
        ClockPost x = Check.house("c9;b0,1,0;d0,1,0;b9,1,0;d9,1,0;");
        c.due("AGE 0", new int[] {weight(x, 0), weight(x, 1), weight(x, 2), weight(x, 3)}, 0, 0, 9, 18);
        Check.pass(x, 105);
        c.due("AGE 99", new int[] {weight(x, 0), weight(x, 1), weight(x, 2), weight(x, 3)}, 99, 198, 108, 216);
    }

    private static void weightOfStaleOnes(Check c) {
        c.holds(14, "a stale one as a bill, but nothing from AGE 9 on");
        ClockPost x = Check.house("c9;s9,1,0;s0,1,0;");
        c.due("AGE 0", new int[] {weight(x, 0), weight(x, 1)}, 9, 0);
        x.days(8);
        c.due("AGE 8", new int[] {weight(x, 0), weight(x, 1)}, 17, 8);
        x.days(1);
        c.due("AGE 9", new int[] {weight(x, 0), weight(x, 1)}, 0, 0);
        x.days(1);
        c.due("AGE 10", weight(x, 0), 0);
        Check.pass(x, 100);
        c.due("AGE 99", weight(x, 0), 0);
    }

    private static void weightOfNotes(Check c) {
        c.holds(14, "a note FEAR");
        ClockPost x = Check.house("c9;n0,1,0;n9,1,0;");
        c.due("AGE 0", new int[] {weight(x, 0), weight(x, 1)}, 0, 9);
        Check.pass(x, 99);
        c.due("AGE 99", new int[] {weight(x, 0), weight(x, 1)}, 0, 9);
    }

    private static void weightOfBlackOnes(Check c) {
        c.holds(14, "one with a black edge FEAR, and 1 more for each other LETTER BEHIND");
        ClockPost x = Check.house("c9;e0,1,0;n0,1,0;e9,1,0;n0,1,0;n0,1,0;n0,1,0;");
        c.due("five others", new int[] {weight(x, 0), weight(x, 2)}, 5, 14);
        x.answer(5);
        c.due("one that is not behind is none", weight(x, 0), 4);
        x.answer(4);
        x.answer(3);
        x.answer(2);
        x.answer(1);
        c.due("alone", weight(x, 0), 0);
        x.days(9);
        c.due("AGE is nothing", weight(x, 0), 0);
    }

    private static void weightOfNothing(Check c) {
        c.holds(14, "(One that is not BEHIND: 0.)");
        ClockPost x = Check.house("c9;b5,1,0;d5,1,0;s5,1,0;n5,1,0;e5,1,0;");
        x.days(2);
        for (int i = 0; i < 5; i++) {
            x.answer(i);
            c.due("letter " + i, weight(x, i), 0);
        }
        c.due("all", x.burden(0), 0);
    }

    private static void together(Check c) {
        c.holds(11, "THICKNESS is THICK of all BEHIND, together");
        ClockPost x = Check.house("c30;n0,9,0;n0,1,0;n0,5,0;");
        c.due("all", x.count(4), 15);
        x.answer(0);
        x.answer(2);
        c.due("one", x.count(4), 1);
        x.answer(1);
        c.due("none", x.count(4), 0);
    }

    private static void answerRefusals(Check c) {
        c.holds(10, "BAD; STATE: it is not BEHIND");
        ClockPost x = new ClockPost();
        c.due("no house", x.answer(0), BAD);
        Check.read(x, "c2;n0,1,2;n0,2,4;");
        for (int letter : NO_LETTERS) {
            c.due("letter " + letter, x.answer(letter), BAD);
        }
        c.due("the last", x.answer(1), 2);
        c.due("again", x.answer(1), STATE);
        x.post(1);
        x.days(1);
        c.due("one that fell", x.answer(1), STATE);
        c.due("SORROW stays", x.count(8), 6);
        c.due("acts", x.count(6), 3);
        c.due("the first", x.answer(0), 7);
    }

    private static void answerHalf(Check c) {
        c.holds(10, "SORROW is half of HOLDS, cut, more");
        int[] half = {0, 0, 1, 1, 2, 2, 3, 3, 4, 4};
        for (int holds = 0; holds < 10; holds++) {
            ClockPost x = Check.house("c9;n0,1," + holds + ";n0,1,7;");
            x.answer(1);
            c.due("3 and half of " + holds, x.answer(0), 3 + half[holds]);
        }
    }

    private static void answerThen(Check c) {
        c.holds(10, "one is answered (not BEHIND any more");
        ClockPost x = Check.house("c9;b4,1,2;b4,1,2;");
        x.days(3);
        x.answer(0);
        c.due("it", Check.letter(x, 0), 4, 1, 2, 0, 3, 0);
        c.due("the other", Check.letter(x, 1), 4, 1, 2, 1, 3, 7);
    }

    private static void postRefusals(Check c) {
        c.holds(11, "BAD; STATE: it is.");
        ClockPost x = new ClockPost();
        c.due("no house", x.post(0), BAD);
        Check.read(x, "c2;n0,1,2;n0,2,4;");
        for (int letter : NO_LETTERS) {
            c.due("letter " + letter, x.post(letter), BAD);
        }
        c.due("it is", new int[] {x.post(0), x.post(1)}, STATE, STATE);
        c.due("acts", x.count(6), 0);
        x.answer(1);
        c.due("it was not", x.post(1), 3);
        c.due("it is again", x.post(1), STATE);
    }

    private static void postAgain(Check c) {
        c.holds(11, "one is put BEHIND (again, AGE 0)");
        ClockPost x = Check.house("c9;b4,1,2;b4,1,2;");
        x.days(5);
        x.answer(0);
        x.post(0);
        c.due("as new", Check.letter(x, 0), 4, 1, 2, 1, 0, 4);
        c.due("the other's AGE", age(x, 1), 5);
        c.due("SORROW stays", x.count(8), 1);
        x.days(1);
        c.due("AGE goes on", age(x, 0), 1);
    }

    private static void postThickness(Check c) {
        c.holds(11, "One is put BEHIND: THICKNESS then");
        ClockPost x = Check.house("c1;n0,9,0;n0,9,0;");
        x.days(1);
        c.due("more than GAP", x.post(0), 9);
        c.due("all of it", x.post(1), 18);
        c.due("nothing falls before a day", x.count(3), 3);
    }

    private static void dreadRange(Check c) {
        c.holds(12, "FEAR is v (0 to 9): what it was");
        ClockPost x = Check.house("c9;n4,1,0;n5,1,0;");
        int[] none = {-1, 10, MIN, MAX};
        for (int v : none) {
            c.due("v " + v, x.dread(0, v), BAD);
        }
        c.due("nothing became another", new int[] {x.letter(0, 0), x.count(6)}, 4, 0);
        c.due("0", x.dread(0, 0), 4);
        c.due("9", x.dread(0, 9), 0);
        c.due("it is 9", x.letter(0, 0), 9);
        c.due("the other is not", x.letter(1, 0), 5);
    }

    private static void dreadRefusals(Check c) {
        c.holds(12, "what it was. BAD.");
        ClockPost x = new ClockPost();
        c.due("no house", x.dread(0, 0), BAD);
        Check.read(x, "c9;n4,1,0;n5,1,0;");
        for (int letter : NO_LETTERS) {
            c.due("letter " + letter, x.dread(letter, 0), BAD);
        }
        x.answer(1);
        c.due("one that is not behind is one", x.dread(1, 6), 5);
    }

    private static void undoDay(Check c) {
        c.holds(13, "ACTS (24 at most are kept");
        ClockPost x = Check.house("c4;b3,3,7;b5,2,5;");
        x.days(1);
        c.due("counts of the day", Check.counts(x), 0, 2, 1, 2, 2, 8, 1, 0, 7, 4);
        c.due("undone", x.undo(), 0);
        c.due("counts", Check.counts(x), 0, 2, 0, 3, 5, 0, 0, 0, 0, 4);
        c.due("ages", new int[] {age(x, 0), age(x, 1)}, 0, 0);
    }

    private static void undoAnswer(Check c) {
        c.holds(13, "one is answered");
        ClockPost x = Check.house("c9;b3,3,7;");
        x.days(2);
        x.answer(0);
        c.due("undone", x.undo(), 2);
        c.due("letter", Check.letter(x, 0), 3, 3, 7, 1, 2, 5);
        c.due("SORROW", x.count(8), 0);
    }

    private static void undoPost(Check c) {
        c.holds(13, "one is put BEHIND");
        ClockPost x = Check.house("c9;b3,3,7;");
        x.days(2);
        x.answer(0);
        x.post(0);
        c.due("undone", x.undo(), 3);
        c.due("letter, its AGE as it was last", Check.letter(x, 0), 3, 3, 7, 0, 2, 0);
        c.due("SORROW", x.count(8), 3);
    }

    private static void undoDread(Check c) {
        c.holds(13, "FEAR of one is another");
        ClockPost x = Check.house("c9;b3,3,7;b3,3,7;");
        x.dread(0, 9);
        x.dread(1, 8);
        c.due("undone", x.undo(), 1);
        c.due("fears", new int[] {x.letter(0, 0), x.letter(1, 0)}, 9, 3);
        c.due("undone, too", x.undo(), 0);
        c.due("fears", new int[] {x.letter(0, 0), x.letter(1, 0)}, 3, 3);
    }

    private static void undoNothing(Check c) {
        c.holds(13, "also such by which nothing becomes another");
        ClockPost x = Check.house("c9;b3,3,7;");
        c.due("the same FEAR", x.dread(0, 3), 3);
        c.due("an act", x.count(6), 1);
        x.dread(0, 4);
        x.dread(0, 4);
        c.due("three", x.count(6), 3);
        c.due("undone", new int[] {x.undo(), x.letter(0, 0)}, 2, 4);
        c.due("undone", new int[] {x.undo(), x.letter(0, 0)}, 1, 3);
        c.due("undone", new int[] {x.undo(), x.letter(0, 0)}, 0, 3);
    }

    private static void undoMost(Check c) {
        c.holds(13, "24 at most are kept");
        ClockPost x = Check.house("c9;b3,3,7;");
        for (int i = 1; i <= 24; i++) {
            x.dread(0, i % 10);
            c.due("acts", x.count(6), i);
        }
        x.dread(0, 0);
        c.due("25", x.count(6), 24);
        x.days(24);
        c.due("49", x.count(6), 24);
    }

    private static void undoOldestForgotten(Check c) {
        c.holds(13, "of more the oldest is forgotten");
        ClockPost x = Check.house("c9;b3,3,7;");
        x.dread(0, 5);
        x.days(24);
        c.due("24", x.count(6), 24);
        for (int i = 23; i >= 0; i--) {
            c.due("undone", x.undo(), i);
        }
        c.due("the 25th is not", x.undo(), STATE);
        c.due("DAY, FEAR", new int[] {x.count(2), x.letter(0, 0)}, 0, 5);
    }

    /** Kept, undone and kept anew, around the end of what is kept. */
    private static void undoRing(Check c) {
        c.holds(13, "each can be undone, the latest first");
        ClockPost x = Check.house("c9;n0,3,7;");
        int day = 0;
        int kept = 0;
        int[] steps = {20, -5, 15, -24, 3, 24, -10, 24, -23, 24, -1, 2, -24};
        for (int step : steps) {
            for (int i = 0; i < step; i++) {
                x.days(1);
                kept = Math.min(24, kept + 1);
                c.due("DAY", x.count(2), ++day);
            }
            for (int i = step; i < 0; i++) {
                c.due("undone", x.undo(), --kept);
                c.due("DAY, AGE", new int[] {x.count(2), age(x, 0)}, --day, day);
            }
            c.due("acts", x.count(6), kept);
        }
    }

    private static void undoLatestFirst(Check c) {
        c.holds(13, "the latest first");
        ClockPost x = Check.house("c9;n1,3,7;");
        x.dread(0, 2);
        x.days(1);
        x.answer(0);
        x.post(0);
        c.due("post", new int[] {x.undo(), x.letter(0, 3), x.count(8)}, 3, 0, 3);
        c.due("answer", new int[] {x.undo(), x.letter(0, 3), x.count(8)}, 2, 1, 0);
        c.due("day", new int[] {x.undo(), x.count(2), x.letter(0, 0)}, 1, 0, 2);
        c.due("dread", new int[] {x.undo(), x.count(2), x.letter(0, 0)}, 0, 0, 1);
    }

    private static void undoNone(Check c) {
        c.holds(13, "STATE: none.");
        ClockPost x = new ClockPost();
        c.due("no house", x.undo(), STATE);
        Check.read(x, "c9;n1,3,7;");
        c.due("a new one", x.undo(), STATE);
        x.answer(0);
        x.undo();
        c.due("none any more", x.undo(), STATE);
        c.due("it stays", x.count(3), 1);
    }

    private static void undoHowMany(Check c) {
        c.holds(13, "how many can be undone yet");
        ClockPost x = Check.house("c9;n1,3,7;");
        x.days(24);
        c.due("23", x.undo(), 23);
        c.due("as counted", x.count(6), 23);
        x.days(1);
        c.due("23 again", x.undo(), 23);
        c.due("22", x.undo(), 22);
    }

    private static void letterNumbers(Check c) {
        c.holds(14, "5 what it WEIGHS. BAD.");
        ClockPost x = new ClockPost();
        c.due("no house", x.letter(0, 0), BAD);
        Check.read(x, "c9;n1,2,3;b4,5,6;");
        for (int letter : NO_LETTERS) {
            c.due("letter " + letter, x.letter(letter, 0), BAD);
        }
        int[] none = {-1, 6, MIN, MAX};
        for (int what : none) {
            c.due("what " + what, x.letter(0, what), BAD);
        }
        c.due("letter 0", Check.letter(x, 0), 1, 2, 3, 1, 0, 1);
        c.due("letter 1", Check.letter(x, 1), 4, 5, 6, 1, 0, 4);
    }

    private static void letterAge(Check c) {
        c.holds(14, "4 AGE (as it was last, if it is not)");
        ClockPost x = Check.house("c3;n0,3,0;n0,2,0;n0,1,0;");
        c.due("one that falls has had the day", new int[] {x.days(1), age(x, 0)}, 6, 1);
        x.days(3);
        x.answer(1);
        x.days(5);
        c.due("ages", new int[] {age(x, 0), age(x, 1), age(x, 2)}, 1, 4, 9);
    }

    private static void letterBehind(Check c) {
        c.holds(14, "3 whether BEHIND (1, 0)");
        ClockPost x = Check.house("c3;n0,3,0;n0,2,0;n0,1,0;");
        x.answer(2);
        c.due("answered", x.letter(2, 3), 0);
        c.due("behind", x.letter(0, 3), 1);
        x.days(1);
        c.due("fallen", x.letter(0, 3), 0);
        x.post(2);
        c.due("put behind", x.letter(2, 3), 1);
    }

    private static void imageNumbers(Check c) {
        c.holds(26, "An IMAGE (0, 1) is kept of the HOUSE: 1");
        ClockPost x = Check.house("c9;");
        int[] none = {-1, 2, MIN, MAX};
        for (int k : none) {
            c.due("image " + k, x.image(k), BAD);
        }
        c.due("both", new int[] {x.image(0), x.image(1)}, 1, 1);
    }

    private static void imageWithoutHouse(Check c) {
        c.holds(26, "BAD; STATE: no HOUSE.");
        ClockPost x = new ClockPost();
        c.due("no house", new int[] {x.image(0), x.image(1)}, STATE, STATE);
        c.due("BAD ahead of STATE", new int[] {x.image(-1), x.image(2)}, BAD, BAD);
        c.due("none was kept", new int[] {x.restore(0), x.restore(1)}, STATE, STATE);
        Check.read(x, "c9;");
        c.due("a house", x.image(0), 1);
    }

    private static void imageKept(Check c) {
        c.holds(26, "is kept of the HOUSE");
        ClockPost x = Check.house("c9;b5,2,8;");
        x.days(2);
        int[] before = Check.counts(x);
        x.image(0);
        c.due("nothing changes", Check.counts(x), before);
        x.days(1);
        x.image(0);
        x.days(1);
        x.restore(0);
        c.due("in place of the one before", x.count(2), 3);
        x.image(1);
        x.days(4);
        x.image(0);
        x.restore(1);
        c.due("each by itself", x.count(2), 3);
        x.restore(0);
        c.due("the other", x.count(2), 7);
    }

    private static void restoreNone(Check c) {
        c.holds(27, "STATE: none was kept");
        ClockPost x = Check.house("c9;b5,2,8;");
        x.days(2);
        c.due("neither", new int[] {x.restore(0), x.restore(1)}, STATE, STATE);
        c.due("all stays", new int[] {x.count(2), x.count(6)}, 2, 2);
        x.image(1);
        c.due("not that one", x.restore(0), STATE);
        c.due("this one", x.restore(1), 1);
    }

    private static void restoreNumbers(Check c) {
        c.holds(27, "BAD; STATE: none was kept.");
        ClockPost x = new ClockPost();
        int[] none = {-1, 2, MIN, MAX};
        for (int k : none) {
            c.due("BAD ahead of STATE, " + k, x.restore(k), BAD);
        }
        c.due("STATE", x.restore(0), STATE);
    }

    private static void restoreAsKept(Check c) {
        c.holds(27, "The HOUSE is as an IMAGE kept it");
        ClockPost x = Check.house("c4;b5,3,8;d1,2,4;");
        x.days(2);
        x.dread(1, 7);
        x.post(0);
        x.answer(1);
        x.image(0);
        int[] due = {0, 2, 2, 1, 3, 7 + 4, 0, 0, 8 + 2, 4};
        x.dread(0, 0);
        x.post(1);
        x.days(5);
        x.restore(0);
        c.due("counts", Check.counts(x), due);
        c.due("letter 0", Check.letter(x, 0), 5, 3, 8, 1, 0, 5);
        c.due("letter 1", Check.letter(x, 1), 7, 2, 4, 0, 2, 0);
        x.days(3);
        x.answer(0);
        c.due("again", x.restore(0), 1);
        c.due("counts again", Check.counts(x), due);
    }

    private static void restoreOtherSizes(Check c) {
        c.holds(27, "as an IMAGE kept it");
        ClockPost x = Check.house("c30;b1,1,1;d2,2,2;s3,3,3;n4,4,4;e5,5,5;b6,6,6;");
        x.image(0);
        Check.read(x, "c5;");
        x.image(1);
        x.restore(0);
        c.due("six", Check.counts(x), 0, 6, 0, 63, 21, 0, 0, 0, 0, 30);
        c.due("kinds", new int[] {x.kind(0), x.kind(1), x.kind(2), x.kind(3), x.kind(4), x.kind(5)}, 1, 2, 3, 4, 5, 1);
        x.restore(1);
        c.due("none", Check.counts(x), 0, 0, 0, 0, 0, 0, 0, 0, 0, 5);
        c.due("no letter", x.letter(0, 0), BAD);
        x.restore(0);
        c.due("the sixth", Check.letter(x, 5), 6, 6, 6, 1, 0, 6);
    }

    private static void restoreNoActs(Check c) {
        c.holds(27, "(no ACT can be undone then)");
        ClockPost x = Check.house("c9;b5,2,8;");
        x.days(3);
        x.image(0);
        c.due("acts", x.count(6), 3);
        x.restore(0);
        c.due("no act", new int[] {x.count(6), x.undo()}, 0, STATE);
        x.days(1);
        c.due("one", new int[] {x.undo(), x.count(2)}, 0, 3);
        c.due("no more", x.undo(), STATE);
    }
}
