/** Promises 24 to 26: feed, text, allowed. */
public final class RulesTest {
    private static final Due DUE = new Due("RulesTest");

    private static void feed() {
        BellWaves x = new BellWaves();
        DUE.is("feed(0, 0)", x.feed(0, 0), Due.BEYOND);
        DUE.is("feed(0, -1)", x.feed(0, -1), Due.BEYOND);
        DUE.is("feed(0, 9)", x.feed(0, 9), Due.BEYOND);
        for (int i = 1; i <= 7; i++) {
            DUE.is("feed " + i + " of 8 bytes", x.feed(-1L, 8), 8 * i);
        }
        DUE.is("feed of 5 where 4 go", x.feed(0, 5), Due.FULL);
        DUE.is("BEYOND is asked ahead of FULL", x.feed(0, 9), Due.BEYOND);
        DUE.is("feed of 4 where 4 go", x.feed(0, 4), 60);
        DUE.is("feed on a full tape", x.feed(0, 1), Due.FULL);
        DUE.is("told(5)", x.told(5), 60);
        DUE.is("text()", x.text(), Due.WRONG);
        DUE.is("told(5) behind it", x.told(5), 0);
        DUE.is("the lowest byte comes first", x.feed(0x113b362d3073L, 5), 5);
        DUE.is("text()", x.text(), 1);
    }

    private static void askText(BellWaves x, String text, int want) {
        Due.feedText(x, text);
        DUE.is("text() of " + text, x.text(), want);
        DUE.is("told(5) behind " + text, x.told(5), 0);
    }

    private static void wrong() {
        BellWaves x = new BellWaves();
        askText(x, "l1-5;", 1);
        String[] texts = {"q", "S", "s", "s7", "s-", "s0", "s0+", "s0-", "s3-2", "s3-7", "s3-3", "s3-3,", "s0-6;;",
            "s0-6;x", "s0-6;x0-", "0", " s0-6;", "s0-6; ", "s0-6;\0", "s0-6;s00"};
        int[] places = {0, 0, 1, 1, 1, 2, 2, 3, 3, 3, 4, 4, 5, 6, 8, 0, 0, 5, 5, 7};
        for (int i = 0; i < texts.length; i++) {
            askText(x, texts[i], Due.WRONG - places[i]);
        }
        DUE.is("a wrong text leaves the rules", x.told(4), 1);
        DUE.is("told(6)", x.told(6), texts.length);
        askText(x, "s0-0;l1-2;u6-6;x0-6;", 4);
        DUE.is("told(4)", x.told(4), 4);
        askText(x, "", 0);
        DUE.is("an empty text has no rules", x.told(4), 0);
        String eight = "s0-6;s0-6;s0-6;s0-6;s0-6;s0-6;s0-6;s0-6;";
        askText(x, eight, 8);
        askText(x, eight + "s0-6;", Due.WRONG - 40);
        askText(x, eight + "?", Due.WRONG - 40);
        askText(x, eight + "s0-6;s0-6;s0-6;s0-6;", Due.WRONG - 40);
        DUE.is("told(4)", x.told(4), 8);
        DUE.is("bytes above 127", x.feed(0xf3L, 1), 1);
        DUE.is("text()", x.text(), Due.WRONG);
        DUE.is("a letter above the lowest byte counts not", x.feed(0x7300L, 1), 1);
        DUE.is("text()", x.text(), Due.WRONG);
    }

    private static void askAllowed(BellWaves x, int school, String want) {
        for (int b = 0; b < 7; b++) {
            DUE.is("allowed(" + school + ", " + b + ")", x.allowed(school, b), want.charAt(b) - '0');
        }
    }

    private static void allowed() {
        BellWaves x = Due.row(1, 1);
        DUE.is("allowed without schools", x.allowed(0, 0), Due.BEYOND);
        for (int kind = 0; kind < 4; kind++) {
            x.school(kind, 0);
            askAllowed(x, kind, "1111111");
        }
        askText(x, "s1-5;", 1);
        for (int s = 0; s < 4; s++) {
            askAllowed(x, s, "0111110");
        }
        askText(x, "s1-5;l0-3;u4-4;x2-6;", 4);
        askAllowed(x, 0, "0111110");
        askAllowed(x, 1, "0111000");
        askAllowed(x, 2, "0000100");
        askAllowed(x, 3, "0011000");
        askText(x, "l0-0;l1-1;", 2);
        askAllowed(x, 0, "1111111");
        askAllowed(x, 1, "0000000");
        askAllowed(x, 2, "1111111");
        askAllowed(x, 3, "0000000");
        DUE.is("allowed(4, 0)", x.allowed(4, 0), Due.BEYOND);
        DUE.is("allowed(-1, 0)", x.allowed(-1, 0), Due.BEYOND);
        DUE.is("allowed(0, 7)", x.allowed(0, 7), Due.BEYOND);
        DUE.is("allowed(0, -1)", x.allowed(0, -1), Due.BEYOND);
    }

    public static void main(String[] args) {
        feed();
        wrong();
        allowed();
        DUE.end();
    }
}
