/** Counts the answers of a test, and prints those that are not as due. */
final class Due {
    static final int BEYOND = -1000001;
    static final int FULL = -1000002;
    static final int KIND = -1000003;
    static final int NONE = -1000004;
    static final int MISSING = -1000005;
    static final int SIZE = -1000006;
    static final int WRONG = -1000100;

    private final String test;
    private int asked;
    private int wrong;

    Due(String test) {
        this.test = test;
    }

    void is(String call, int got, int want) {
        asked++;
        if (got != want) {
            wrong++;
            System.out.println(test + ": " + call + " answered " + got + ", due is " + want);
        }
    }

    void holds(String what, boolean so) {
        is(what, so ? 1 : 0, 1);
    }

    /** A sentence of the document, and rows of calls on a new object that would answer otherwise if it were broken. */
    void says(String sentence, String... rows) {
        Run.holds(this, sentence, rows);
    }

    /** Each of some calls, on an object of its own that rows have built, answers a finding and changes nothing. */
    void refuses(String sentence, String built, String finding, String... calls) {
        for (String call : calls) {
            Run.holds(this, sentence, built, call + " = " + finding);
        }
    }

    /** Prints the sum, and ends the program with exit code 1 if an answer was wrong. */
    void end() {
        System.out.println(test + ": " + (asked - wrong) + " of " + asked + " answers are as due");
        if (wrong != 0 || asked == 0) {
            System.exit(1);
        }
    }

    /** So many corners in a row, each one and the next joined by a street of so many minutes. */
    static BellWaves row(int corners, int minutes) {
        BellWaves x = new BellWaves();
        for (int c = 0; c < corners; c++) {
            x.corner();
            if (c > 0) {
                x.street(c - 1, c, minutes);
            }
        }
        return x;
    }

    /** Feeds a text a byte a call, whatever its length. */
    static int feedText(BellWaves x, String text) {
        int length = 0;
        for (int i = 0; i < text.length(); i++) {
            length = x.feed(text.charAt(i), 1);
        }
        return length;
    }
}
