/** Compares answers with those that are due, and ends a test with exit code 1 if one was not. */
final class Check {
    private int asked;
    private int wrong;

    void due(String call, long got, long want) {
        asked++;
        if (got != want) {
            wrong++;
            System.out.println(call + " answered " + got + ", due is " + want);
        }
    }

    void due(String call, int[] got, int... want) {
        asked++;
        if (!java.util.Arrays.equals(got, want)) {
            wrong++;
            System.out.println(call + " answered " + java.util.Arrays.toString(got)
                    + ", due is " + java.util.Arrays.toString(want));
        }
    }

    boolean stillRight() {
        return wrong == 0;
    }

    void end() {
        System.out.println(wrong == 0 ? asked + " answers are as due" : wrong + " of " + asked + " answers are not as due");
        if (wrong != 0) {
            System.exit(1);
        }
    }

    /** Feeds a text, behind what is on the tape. */
    static void feed(ClockPost post, String text) {
        for (int i = 0; i < text.length(); i++) {
            post.feed(text.charAt(i));
        }
    }

    /** A new object with a HOUSE. */
    static ClockPost house(String text) {
        ClockPost post = new ClockPost();
        feed(post, text);
        if (post.house() < 0) {
            throw new IllegalArgumentException(text);
        }
        return post;
    }

    /** Lays a ROW of ints. */
    static void lay(ClockPost post, int row, int... items) {
        post.row(row, 2, items.length);
        for (int i = 0; i < items.length; i++) {
            post.set(row, i, items[i]);
        }
    }

    /** THE TRACE up to its first NONE. */
    static int[] trace(ClockPost post) {
        int length = 0;
        while (length < 20 && post.trace(length) != ClockPost.NONE) {
            length++;
        }
        int[] bodies = new int[length];
        for (int i = 0; i < length; i++) {
            bodies[i] = post.trace(i);
        }
        return bodies;
    }

    /** What letter() tells of one LETTER. */
    static int[] letter(ClockPost post, int letter) {
        int[] told = new int[6];
        for (int what = 0; what < told.length; what++) {
            told[what] = post.letter(letter, what);
        }
        return told;
    }
}
