import java.util.ArrayList;
import java.util.List;

/** The sentences of the document that hold for all calls: what changes nothing, and how many calls there are. */
public final class EdgesOfTermsTest {
    private static final int NONE = ClockPost.NONE, BAD = ClockPost.BAD, STATE = ClockPost.STATE, FULL = ClockPost.FULL;
    private static final int MIN = Integer.MIN_VALUE, MAX = Integer.MAX_VALUE;
    private static final String REFUSED = "What is refused, or found, changes nothing but status()";
    private static final String FORETOLD = "FORETOLD (nothing changes)";
    private static final String CALLS = "An object is used for at most 512 calls after it has been made";

    /** A call of one object. */
    private interface Call {
        int on(ClockPost x);
    }

    private final Check check;
    private final int[] untouched = all(rich());

    private EdgesOfTermsTest(Check check) {
        this.check = check;
    }

    public static void main(String[] args) {
        Check check = new Check();
        EdgesOfTermsTest test = new EdgesOfTermsTest(check);
        test.theProbeSeesAll();
        test.rowsRefused();
        test.actsRefused();
        test.foretoldRefused();
        test.restRefused();
        test.refusedWithoutHouse();
        test.fullRefused();
        test.foretoldChangesNothing();
        test.fallsChangesNothing();
        test.lastCalls();
        check.end(2, 3, 4, 5, 6, 9, 10, 11, 12, 13, 14, 15, 16, 17, 18, 19, 20, 21, 22, 23, 24, 25, 26, 27, 28, 29, 30, 31, 32);
    }

    /** Two ROWS, five ACTS, IMAGE 0, THE TRACE, a FAULT, half a text on the tape, FINDING 3. */
    private static ClockPost rich() {
        ClockPost x = new ClockPost();
        Check.read(x, "c0;");
        Check.read(x, "c9;b3,2,5;d1,9,4;s5,1,3;n2,2,9;");
        x.days(2);
        x.image(0);
        x.row(0, 2, 3);
        x.set(0, 1, 7);
        x.row(1, 1, 2);
        x.set(1, 0, 4);
        x.dread(0, 8);
        x.answer(3);
        x.days(1);
        x.ask(2, 0);
        Check.feed(x, "c9;n0");
        x.as(0, 5);
        return x;
    }

    /** All that can be asked of such an object; it is used up by that. */
    private static int[] all(ClockPost x) {
        List<Integer> all = new ArrayList<>();
        addHouse(all, x);
        all.add(x.fault());
        for (int body : Check.trace(x)) {
            all.add(body);
        }
        for (int kept = 0; kept < 6; kept++) {
            all.add(x.undo());
            addHouse(all, x);
        }
        all.add(x.restore(1));
        all.add(x.restore(0));
        addHouse(all, x);
        all.add(Check.read(x, ",1,0;"));
        addHouse(all, x);
        for (int row = 0; row < 8; row++) {
            for (int item : Check.items(x, row, 4)) {
                all.add(item);
            }
            all.add(x.set(row, 0, 70000));
            all.add(x.drop(row));
        }
        return all.stream().mapToInt(i -> i).toArray();
    }

    private static void addHouse(List<Integer> all, ClockPost x) {
        for (int told : Check.counts(x)) {
            all.add(told);
        }
        for (int letter = 0; letter < 4; letter++) {
            for (int what = 0; what < 5; what++) {
                all.add(x.letter(letter, what));
            }
            all.add(x.kind(letter));
        }
    }

    /** Each of these calls does change something: a probe that is blind would hold nothing. */
    private void theProbeSeesAll() {
        Call[] calls = {x -> x.row(2, 0, 0), x -> x.row(0, 2, 2), x -> x.row(1, 2, 2), x -> x.set(0, 2, 1), x -> x.drop(1),
            x -> x.copy(0, 1, 0, 0, 1), x -> x.feed(0), x -> x.house(), x -> x.days(1), x -> x.answer(0), x -> x.post(3),
            x -> x.dread(2, 5), x -> x.undo(), x -> x.image(0), x -> x.image(1), x -> x.restore(0), x -> x.ask(0, 0)};
        for (int i = 0; i < calls.length; i++) {
            ClockPost x = rich();
            calls[i].on(x);
            check.due("seen of call " + i, java.util.Arrays.equals(all(x), untouched) ? 0 : 1, 1);
        }
    }

    /** Each call in a new object; BAD, STATE, FULL, NONE leave status() as well, a FINDING is told by it. */
    private void refused(int promise, int due, Call... calls) {
        check.holds(promise, REFUSED);
        for (int i = 0; i < calls.length; i++) {
            ClockPost x = rich();
            check.due("call " + i, calls[i].on(x), due);
            check.due("status behind call " + i, x.status(), due < -1000010 ? -1000010 - due : 3);
            check.due("all behind call " + i, all(x), untouched);
        }
    }

    private void rowsRefused() {
        refused(2, BAD, x -> x.row(-1, 0, 1), x -> x.row(8, 0, 1), x -> x.row(0, -1, 1), x -> x.row(0, 3, 1), x -> x.row(0, 0, 41));
        refused(2, -1000014, x -> x.row(0, 0, -1), x -> x.row(2, 0, -1), x -> x.row(0, 0, MIN));
        refused(3, BAD, x -> x.set(-1, 0, 1), x -> x.set(8, 0, 1));
        refused(3, -1000011, x -> x.set(2, 0, 1), x -> x.set(7, 0, 1));
        refused(3, -1000012, x -> x.set(0, -1, 1), x -> x.set(0, 3, 1), x -> x.set(1, 2, 1), x -> x.set(0, MAX, 1));
        refused(4, BAD, x -> x.copy(-1, 0, 0, 0, 1), x -> x.copy(0, 0, 8, 0, 1));
        refused(4, -1000011, x -> x.copy(0, 0, 2, 0, 1), x -> x.copy(2, 0, 0, 0, 1));
        refused(4, -1000015, x -> x.copy(0, 0, 1, 0, 1), x -> x.copy(1, 0, 0, 0, 1));
        refused(4, -1000012, x -> x.copy(0, 1, 0, 0, 3), x -> x.copy(0, 0, 0, 1, 3), x -> x.copy(0, -1, 0, 0, 1),
                x -> x.copy(0, 1, 0, -1, 1), x -> x.copy(0, 1, 0, 0, -1));
        refused(5, BAD, x -> x.drop(-1), x -> x.drop(8));
        refused(5, -1000011, x -> x.drop(2));
        refused(6, BAD, x -> x.feed(-1), x -> x.feed(256));
    }

    private void actsRefused() {
        refused(9, BAD, x -> x.days(0), x -> x.days(-1), x -> x.days(25));
        refused(10, BAD, x -> x.answer(-1), x -> x.answer(4));
        refused(10, STATE, x -> x.answer(1), x -> x.answer(3));
        refused(11, BAD, x -> x.post(-1), x -> x.post(4));
        refused(11, STATE, x -> x.post(0), x -> x.post(2));
        refused(12, BAD, x -> x.dread(-1, 1), x -> x.dread(4, 1), x -> x.dread(0, -1), x -> x.dread(0, 10));
        refused(14, BAD, x -> x.letter(-1, 0), x -> x.letter(4, 0), x -> x.letter(0, -1), x -> x.letter(0, 6));
    }

    private void foretoldRefused() {
        refused(15, BAD, x -> x.burden(-1), x -> x.burden(61));
        refused(16, BAD, x -> x.sum(-1), x -> x.sum(61));
        refused(17, BAD, x -> x.behind(-1), x -> x.behind(61));
        refused(18, BAD, x -> x.falls(-1), x -> x.falls(2));
        refused(19, BAD, x -> x.order(1, -2), x -> x.order(1, 6), x -> x.order(2, 0), x -> x.order(16, 0), x -> x.order(-1, 0));
        refused(19, NONE, x -> x.order(1, 1), x -> x.order(0, 0));
        refused(20, BAD, x -> x.hold(0, 0), x -> x.hold(61, 0), x -> x.hold(1, 2));
        refused(21, BAD, x -> x.ease(0, 0, 0), x -> x.ease(61, 0, 0), x -> x.ease(1, -1, 0), x -> x.ease(1, 301, 0), x -> x.ease(1, 0, 2));
        refused(22, BAD, x -> x.fits(4, 0, 0, 1, 0), x -> x.fits(0, 8, 0, 1, 0), x -> x.fits(0, 0, 0, 17, 0), x -> x.fits(0, 0, 0, 1, 3));
        refused(22, -1000011, x -> x.fits(0, 2, 0, 1, 0));
        refused(22, -1000012, x -> x.fits(0, 0, 3, 1, 0), x -> x.fits(0, 0, 0, 4, 1), x -> x.fits(0, 0, -1, 1, 2));
        refused(23, BAD, x -> x.stealth(8, 0, 1), x -> x.stealth(0, 0, 0), x -> x.stealth(0, 0, 17));
        refused(23, -1000011, x -> x.stealth(2, 0, 1));
        refused(23, -1000012, x -> x.stealth(0, 3, 1), x -> x.stealth(0, 0, 4), x -> x.stealth(0, -1, 1));
        refused(24, BAD, x -> x.lost(-1, 0, 0), x -> x.lost(301, 0, 0), x -> x.lost(0, 11, 0), x -> x.lost(0, 0, 2));
        refused(25, BAD, x -> x.drawn(61, 1, 0), x -> x.drawn(1, 0, 0), x -> x.drawn(1, 1000000, 0), x -> x.drawn(1, 1, 2));
    }

    private void restRefused() {
        refused(26, BAD, x -> x.image(-1), x -> x.image(2));
        refused(27, BAD, x -> x.restore(-1), x -> x.restore(2));
        refused(27, STATE, x -> x.restore(1));
        refused(28, BAD, x -> x.kind(-1), x -> x.kind(4));
        refused(29, BAD, x -> x.as(-1, 0), x -> x.as(4, 0), x -> x.as(0, -1), x -> x.as(0, 6));
        refused(29, -1000013, x -> x.as(0, 2), x -> x.as(2, 4));
        refused(30, BAD, x -> x.ask(-1, 0), x -> x.ask(4, 0), x -> x.ask(0, -1), x -> x.ask(0, 2));
        refused(31, NONE, x -> x.trace(-1), x -> x.trace(16));
        refused(32, BAD, x -> x.count(-1), x -> x.count(10));
    }

    /** Without a HOUSE, and without ACTS: nothing comes to be by what is refused. */
    private void refusedWithoutHouse() {
        check.holds(13, REFUSED);
        Call[] calls = {x -> x.days(1), x -> x.undo(), x -> x.burden(1), x -> x.sum(1), x -> x.behind(1), x -> x.falls(0),
            x -> x.order(0, 0), x -> x.hold(1, 0), x -> x.ease(1, 1, 1), x -> x.stealth(0, 0, 1), x -> x.lost(1, 1, 1),
            x -> x.drawn(1, 1, 1), x -> x.image(0), x -> x.restore(0)};
        for (int i = 0; i < calls.length; i++) {
            ClockPost x = new ClockPost();
            check.due("call " + i, calls[i].on(x), STATE);
            check.due("counts behind call " + i, Check.counts(x), new int[10]);
            check.due("image, undo behind call " + i, new int[] {x.restore(0), x.undo(), x.status()}, STATE, STATE, 0);
        }
    }

    private void fullRefused() {
        check.holds(9, REFUSED);
        ClockPost x = Check.house("c9;b3,2,5;d1,9,4;");
        Check.pass(x, 990);
        int[] before = Check.counts(x);
        check.due("beyond the last day", x.days(10), FULL);
        check.due("counts", Check.counts(x), before);
        check.due("ages", new int[] {x.letter(0, 4), x.letter(1, 4)}, 99, 1);
        check.due("the latest act", new int[] {x.undo(), x.count(2)}, 23, 989);
    }

    private void unchanged(int promise, Call... calls) {
        check.holds(promise, FORETOLD);
        for (int i = 0; i < calls.length; i++) {
            ClockPost x = rich();
            int answer = calls[i].on(x);
            check.due("call " + i + " is not refused", answer >= NONE ? 1 : 0, 1);
            check.due("all behind call " + i, all(x), untouched);
        }
    }

    private void foretoldChangesNothing() {
        unchanged(15, x -> x.burden(0), x -> x.burden(60));
        unchanged(16, x -> x.sum(0), x -> x.sum(60));
        unchanged(17, x -> x.behind(0), x -> x.behind(60));
        unchanged(18, x -> x.falls(0), x -> x.falls(1));
        unchanged(19, x -> x.order(5, -1), x -> x.order(5, 0));
        unchanged(20, x -> x.hold(60, 0), x -> x.hold(60, 1));
        unchanged(21, x -> x.ease(60, 0, 0), x -> x.ease(60, 0, 1));
        unchanged(22, x -> x.fits(0, 0, 0, 3, 0), x -> x.fits(0, 0, 0, 3, 1), x -> x.fits(3, 0, 0, 3, 2));
        unchanged(23, x -> x.stealth(0, 0, 3));
        unchanged(24, x -> x.lost(9, 3, 0), x -> x.lost(9, 3, 1));
        unchanged(25, x -> x.drawn(60, 3, 0), x -> x.drawn(60, 3, 1));
    }

    /** Where one does fall. */
    private void fallsChangesNothing() {
        check.holds(18, FORETOLD);
        ClockPost x = Check.house("c1;b3,2,5;d1,9,4;");
        check.due("falls", new int[] {x.falls(0), x.falls(1)}, 1, 1);
        check.due("counts", Check.counts(x), 0, 2, 0, 3, 11, 0, 0, 0, 0, 1);
        check.due("ages", new int[] {x.letter(0, 4), x.letter(1, 4)}, 0, 0);
    }

    /** 512 of each of the dearest calls in one object. */
    private void lastCalls() {
        ClockPost x = Check.house("c30;b3,4,6;d1,3,2;s5,2,9;n7,4,8;e2,1,5;d6,1,1;");
        Call[] dearest = {y -> y.order(63, -1), y -> y.hold(60, 1), y -> y.ease(60, 0, 1), y -> y.drawn(60, 1, 0)};
        int[] promises = {19, 20, 21, 25};
        for (int i = 0; i < dearest.length; i++) {
            check.holds(promises[i], CALLS);
            int first = dearest[i].on(x);
            int different = 0;
            for (int calls = 1; calls < 512; calls++) {
                different += dearest[i].on(x) == first ? 0 : 1;
            }
            check.due("all are the same as the first", different, 0);
        }
    }
}
