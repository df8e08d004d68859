/** Sentence by sentence: the rules of 'Terms', and promises 24 to 26. */
public final class RulesBoundsTest {
    private static final Due DUE = new Due("RulesBoundsTest");

    private static final String FOUR = Run.corners(1) + "school(0, 0); school(1, 0); school(2, 0); school(3, 0);";
    private static final String EIGHT = "s0-6;l0-6;u0-6;x0-6;s0-5;l1-6;u2-2;x1-4;";

    /** Which of the bells 0 to 6 are allowed for a school, as a text of 0 and 1. */
    private static String allowed(int school, String bells) {
        StringBuilder rows = new StringBuilder();
        for (int b = 0; b < 7; b++) {
            rows.append("allowed(").append(school).append(", ").append(b).append(") = ").append(bells.charAt(b)).append("; ");
        }
        return rows.toString();
    }

    /** One rule is there, and a text is read that is wrong at a place: the rule stays, the tape goes. */
    private static void wrong(String sentence, int place, String... texts) {
        for (String text : texts) {
            DUE.says(sentence, Run.corners(1), "school(0, 0);", Run.tape("s2-4;"), "text() = 1;", Run.tape(text),
                "told(5) = " + text.length(), "text() = WRONG " + place, "told(5) = 0; told(4) = 1", allowed(0, "0011100"),
                "text() = 0; told(4) = 0; told(6) = 1");
        }
    }

    private static void feed() {
        String sentence = "The n lowest bytes of w, the lowest first, come to the tape: how many it has. BEYOND: n is not 1 "
            + "to 8. FULL: there would be more than 60.";
        DUE.says(sentence, "feed(115, 1) = 1; feed(48, 1) = 2; feed(45, 1) = 3; feed(54, 1) = 4; feed(59, 1) = 5; told(5) = 5",
            "text() = 1; told(6) = 0");
        // What lies above the n lowest bytes is not looked at, and bytes above the lowest four count as well.
        DUE.says(sentence, "feed(-141, 1) = 1; text() = WRONG 1; feed(371, 1) = 1; text() = WRONG 1", Run.tape("s0-6;l1-"),
            "told(5) = 8", Run.tape("5;"), "text() = 2");
        // Seven bytes that can stand, and an eighth that is a - but for the highest bit of w.
        DUE.says(sentence, Run.tape("s0-6;l1" + (char) (45 + 128)), "told(5) = 8; text() = WRONG 7");
        DUE.says(sentence, "feed(LEAST, 8) = 8; feed(MOST, 8) = 16; feed(-1, 8) = 24; feed(0, 8) = 32; text() = WRONG 0");
        DUE.says(sentence, Run.times(7, "feed(0, 8)"), "told(5) = 56; feed(0, 5) = FULL; feed(0, 8) = FULL; feed(0, 4) = 60",
            "feed(0, 1) = FULL; feed(0, 8) = FULL; told(5) = 60; text() = WRONG 0; told(5) = 0; feed(0, 8) = 8");
        DUE.says(sentence, Run.times(59, "feed(0, 1)"), "told(5) = 59; feed(0, 2) = FULL; feed(0, 1) = 60; feed(0, 1) = FULL");
        DUE.refuses(sentence, FOUR + Run.tape("s1-2;"), "BEYOND", "feed(0, 0)", "feed(0, 9)", "feed(0, -1)", "feed(0, MIN)",
            "feed(0, MAX)", "feed(MOST, 0)", "feed(LEAST, 9)");
        String full = FOUR + Run.tape(EIGHT + "s0-6;s0-6;s0-6;s0-");
        DUE.refuses(sentence, full, "FULL", "feed(59, 4)", "feed(59, 8)");
        DUE.refuses(sentence, full, "BEYOND", "feed(59, 0)", "feed(59, 9)");
        DUE.says(sentence, FOUR, Run.tape("x2-3;"), Run.times(55, "feed(0, 1)"), "feed(0, 1) = FULL; text() = WRONG 5");
    }

    private static void rows() {
        String row = "rows of a letter (s SCHOOL, l LOWER, u UPPER, x SPECIAL), a digit, a -, a digit, and a ;";
        DUE.says(row + " one behind the other, at most 8", Run.tape(EIGHT), "told(5) = 40; text() = 8; told(4) = 8");
        String sentence = "WRONG is the place of the first byte that can't stand there (of a 9th letter, too), the length if "
            + "the TEXT ends in the midst.";
        wrong(sentence, 0, "S0-6;", "r0-6;", "t0-6;", "k0-6;", "m0-6;", "v0-6;", "w0-6;", "y0-6;", "00-6;", ";", "-", " s0-6;",
            "\0", "\n", "" + (char) (115 + 128), "" + (char) 255, "q0-6;q");
        wrong(sentence, 1, "s/-6;", "s7-7;", "s--6;", "s;", "ss0-6;", "s 0-6;", "s9", "s" + (char) (48 + 128) + "-6;");
        wrong(sentence, 2, "s0,6;", "s0.6;", "s006;", "s0;", "s0 -6;", "s0" + (char) (45 + 128));
        wrong(sentence, 3, "s0-/;", "s0-7;", "s0--;", "s0-;", "s0-s", "s3-2;", "s6-5;", "s6-0;", "s1-0;",
            "s0-" + (char) (54 + 128));
        wrong(sentence, 4, "s0-6:", "s0-6<", "s0-66;", "s0-6s0-6;", "s0-6-", "s0-6" + (char) (59 + 128));
        wrong(sentence, 5, "s0-6;;", "s0-6; ", "s0-6;q1-2;", "s0-6;S", "s0-6;\0");
        wrong(sentence, 6, "s0-6;x7", "s0-6;xx");
        wrong(sentence, 8, "s0-6;x5-4;");
        wrong(sentence, 39, EIGHT.substring(0, 39) + ":");
    }

    private static void ends() {
        String sentence = "the length if the TEXT ends in the midst";
        for (int n = 1; n < 40; n++) {
            if (n % 5 != 0) {
                wrong(sentence, n, EIGHT.substring(0, n));
            } else {
                DUE.says(sentence, Run.tape(EIGHT.substring(0, n)), "text() = " + n / 5, "told(4) = " + n / 5);
            }
        }
        wrong("(of a 9th letter, too)", 40, EIGHT + "s", EIGHT + "l", EIGHT + "u", EIGHT + "x", EIGHT + "s0-6;", EIGHT + "q",
            EIGHT + "s0", EIGHT + EIGHT.substring(0, 20));
    }

    private static void digits() {
        String sentence = "Digits are 0 to 6, the second one not less than the first.";
        for (int low = 0; low < 7; low++) {
            for (int high = low; high < 7; high++) {
                String bells = "0".repeat(low) + "1".repeat(high - low + 1) + "0".repeat(6 - high);
                DUE.says(sentence, Run.corners(1), "school(0, 0);", Run.tape("s" + low + "-" + high + ";"), "text() = 1",
                    allowed(0, bells));
            }
            if (low > 0) {
                wrong(sentence, 3, "s" + low + "-" + (low - 1) + ";");
            }
        }
    }

    private static void kinds() {
        String sentence = "a SCHOOL that is of that kind, or of one under it, may have BELLS from the first digit to the "
            + "second one";
        DUE.says(sentence, FOUR, Run.tape("s1-5;"), "text() = 1", allowed(0, "0111110"), allowed(1, "0111110"),
            allowed(2, "0111110"), allowed(3, "0111110"));
        DUE.says(sentence, FOUR, Run.tape("l1-5;"), "text() = 1", allowed(0, "1111111"), allowed(1, "0111110"),
            allowed(2, "1111111"), allowed(3, "0111110"));
        DUE.says(sentence, FOUR, Run.tape("u1-5;"), "text() = 1", allowed(0, "1111111"), allowed(1, "1111111"),
            allowed(2, "0111110"), allowed(3, "1111111"));
        DUE.says(sentence, FOUR, Run.tape("x1-5;"), "text() = 1", allowed(0, "1111111"), allowed(1, "1111111"),
            allowed(2, "1111111"), allowed(3, "0111110"));
        DUE.says("A BELL is ALLOWED for a SCHOOL if all RULES for it have it.", FOUR, Run.tape("s1-5;l0-3;u4-4;x2-6;"),
            "text() = 4", allowed(0, "0111110"), allowed(1, "0111000"), allowed(2, "0000100"), allowed(3, "0011000"));
        DUE.says("A BELL is ALLOWED for a SCHOOL if all RULES for it have it.", FOUR, Run.tape("l0-2;l3-6;"), "text() = 2",
            allowed(0, "1111111"), allowed(1, "0000000"), allowed(2, "1111111"), allowed(3, "0000000"));
        DUE.says("A BELL is ALLOWED for a SCHOOL if all RULES for it have it.", FOUR, Run.tape(EIGHT), "text() = 8",
            allowed(0, "1111110"), allowed(1, "0111110"), allowed(2, "0010000"), allowed(3, "0111100"));
    }

    private static void text() {
        DUE.says("The tape is the TEXT of the RULES (in place of those that were): how many RULES.", FOUR, Run.tape("s3-3;u0-3;"),
            "text() = 2", allowed(0, "0001000"), Run.tape("l6-6;"), "text() = 1; told(4) = 1", allowed(0, "1111111"),
            allowed(1, "0000001"), allowed(2, "1111111"), "text() = 0; told(4) = 0", allowed(1, "1111111"), "told(6) = 0");
        DUE.says("The tape is the TEXT of the RULES (in place of those that were): how many RULES.", "text() = 0; told(4) = 0",
            Run.tape(EIGHT), "text() = 8; told(4) = 8; text() = 0; told(4) = 0");
        DUE.says("-1000100 less WRONG.", Run.tape("s0-6;x5-4;"), "text() = -1000108; told(6) = 1");
        DUE.says("The tape is empty then, whatever is answered.", Run.tape("s0-6;"), "text() = 1; told(5) = 0; text() = 0",
            "told(5) = 0; told(4) = 0", Run.tape("s0-6"), "text() = WRONG 4; told(5) = 0", Run.tape(";"), "text() = WRONG 0",
            "told(5) = 0; feed(115, 1) = 1");
    }

    private static void allowedCall() {
        String sentence = "Whether a BELL is ALLOWED for a SCHOOL: 1, else 0. BEYOND.";
        String ruled = FOUR + Run.tape("l2-4;") + "text();";
        DUE.says(sentence, FOUR, Run.times(7, "allowed(0, #) = 1; allowed(3, #) = 1"), "told(6) = 0");
        DUE.says(sentence, ruled, allowed(3, "0011100"), allowed(2, "1111111"), "told(6) = 0");
        DUE.refuses(sentence, ruled, "BEYOND", "allowed(-1, 3)", "allowed(4, 3)", "allowed(0, -1)", "allowed(0, 7)",
            "allowed(MIN, 3)", "allowed(MAX, 3)", "allowed(0, MIN)", "allowed(0, MAX)", "allowed(1, -1)", "allowed(1, 7)");
        DUE.refuses(sentence, Run.corners(1), "BEYOND", "allowed(0, 0)");
    }

    public static void main(String[] args) {
        feed();
        rows();
        ends();
        digits();
        kinds();
        text();
        allowedCall();
        DUE.end();
    }
}
