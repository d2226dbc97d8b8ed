import java.util.Arrays;
import java.util.TreeSet;

/** Compares answers with those that are due, and ends a test with exit code 1 if one was not. */
final class Check {
    private final TreeSet<Integer> promises = new TreeSet<>();
    private String heading = "";
    private int asked;
    private int wrong;

    /** What is compared from now on holds these words of the document; they are looked up there. */
    void holds(int promise, String words) {
        heading = "promise " + promise + ", \"" + words + "\": ";
        promises.add(promise);
        asked++;
        if (!Document.says(promise, words)) {
            tell("the document does not say so");
        }
    }

    void due(String call, long got, long want) {
        asked++;
        if (got != want) {
            tell(call + " answered " + got + ", due is " + want);
        }
    }

    void due(String call, int[] got, int... want) {
        asked++;
        if (!Arrays.equals(got, want)) {
            tell(call + " answered " + Arrays.toString(got) + ", due is " + Arrays.toString(want));
        }
    }

    private void tell(String what) {
        wrong++;
        System.out.println(heading + what);
    }

    boolean stillRight() {
        return wrong == 0;
    }

    /** Ends a test that ought to have held words of each of these promises. */
    void end(int... due) {
        for (int promise : due) {
            if (!promises.contains(promise)) {
                heading = "";
                tell("promise " + promise + " was not held by any words");
            }
        }
        end();
    }

    void end() {
        System.out.println(wrong == 0 ? asked + " answers are as due" : wrong + " of " + asked + " answers are not as due");
        if (wrong != 0) {
            System.exit(1);
        }
    }

    /** Feeds a text, behind what is on the tape. */
    static void feed(ClockPost post, String text) {
        for (int i = 0; i < text.length(); i++) {
            post.feed(text.charAt(i));
        }
    }

    /** Feeds a text, and reads the tape. */
    static int read(ClockPost post, String text) {
        feed(post, text);
        return post.house();
    }

    /** A new object with a HOUSE. */
    static ClockPost house(String text) {
        ClockPost post = new ClockPost();
        if (read(post, text) < 0) {
            throw new IllegalArgumentException(text);
        }
        return post;
    }

    /** Lays a ROW of ints. */
    static void lay(ClockPost post, int row, int... items) {
        post.row(row, 2, items.length);
        for (int i = 0; i < items.length; i++) {
            post.set(row, i, items[i]);
        }
    }

    /** Lets DAYS go by, as many as there should. */
    static void pass(ClockPost post, int days) {
        for (int left = days; left > 0; left -= 24) {
            post.days(Math.min(24, left));
        }
    }

    /** n ITEMS from 0 on, of 0 to 9 each (-1: any other), of an object whose only LETTER is a note that is BEHIND. */
    static int[] items(ClockPost post, int row, int n) {
        int[] items = new int[n];
        for (int i = 0; i < n; i++) {
            int fears = post.fits(0, row, i, 1, 0);
            items[i] = fears > 0 ? Integer.numberOfTrailingZeros(fears) : -1;
        }
        return items;
    }

    /** THE TRACE up to its first NONE. */
    static int[] trace(ClockPost post) {
        int length = 0;
        while (length < 20 && post.trace(length) != ClockPost.NONE) {
            length++;
        }
        int[] bodies = new int[length];
        for (int i = 0; i < length; i++) {
            bodies[i] = post.trace(i);
        }
        return bodies;
    }

    /** What letter() tells of one LETTER. */
    static int[] letter(ClockPost post, int letter) {
        int[] told = new int[6];
        for (int what = 0; what < told.length; what++) {
            told[what] = post.letter(letter, what);
        }
        return told;
    }

    /** What count() tells. */
    static int[] counts(ClockPost post) {
        int[] counts = new int[10];
        for (int what = 0; what < counts.length; what++) {
            counts[what] = post.count(what);
        }
        return counts;
    }
}
