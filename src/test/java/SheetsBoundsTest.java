/** Sentence by sentence: the sheets of 'Terms', and promises 34 to 38. */
public final class SheetsBoundsTest {
    private static final Due DUE = new Due("SheetsBoundsTest");

    /** A school with four stops of ten pupils, a quarter each, and sheets of three kinds: 0 of 8 bits, 1 of 16, 2 of 32. */
    private static final String TOWN = Run.corners(1) + "school(0, 0);" + Run.times(4, "stop(0, 0, 10, #)")
        + "sheet(0, 8, 2); sheet(1, 16, 3); sheet(2, 32, 5); write(0, 0, 30); write(0, 1, 1); write(1, 2, 300);"
        + "write(2, 0, 5); write(2, 1, 6); write(2, 2, 7); write(2, 3, 8); write(2, 4, 9);";

    /** What stands in a sheet, seen by writing each number as it is due; there is no number behind them. */
    private static String sheet(int s, int... numbers) {
        StringBuilder rows = new StringBuilder();
        for (int i = 0; i < numbers.length; i++) {
            rows.append("write(").append(s).append(", ").append(i).append(", ").append(numbers[i]).append(") = ");
            rows.append(numbers[i]).append("; ");
        }
        return rows.append("write(").append(s).append(", ").append(numbers.length).append(", 0) = BEYOND; ").toString();
    }

    private static void sheets() {
        DUE.says("SHEETS 0 to 3 are rows of up to 10 numbers of 8, 16 or 32 bits, or MISSING (all, at first).",
            Run.times(4, "write(#, 0, 0) = MISSING; sheet(#, 8, 10) = 10; write(#, 9, 1) = 0; write(#, 10, 1) = BEYOND"),
            "sheet(4, 8, 1) = BEYOND; sheet(-1, 8, 1) = BEYOND; sheet(0, 8, 11) = BEYOND");
        String sentence = "A sheet has n numbers, all 0, of 8, 16 or 32 bits; bits 0: it is MISSING: n (0; n is looked at "
            + "all the same).";
        DUE.says(sentence, "sheet(0, 8, 0) = 0", sheet(0), "sheet(0, 8, 1) = 1", sheet(0, 0), "sheet(0, 16, 10) = 10",
            sheet(0, 0, 0, 0, 0, 0, 0, 0, 0, 0, 0), "sheet(0, 32, 3) = 3", sheet(0, 0, 0, 0));
        // All are 0 again, those that were there and those that had been there.
        DUE.says(sentence, TOWN, "sheet(2, 32, 5) = 5", sheet(2, 0, 0, 0, 0, 0), "write(2, 4, 7); sheet(2, 32, 2)",
            "sheet(2, 32, 5) = 5", sheet(2, 0, 0, 0, 0, 0), sheet(0, 30, 1), "told(6) = 3");
        DUE.says(sentence, TOWN, "sheet(2, 0, 0) = 0; write(2, 0, 0) = MISSING; sheet(0, 0, 10) = 0; write(0, 0, 0) = MISSING",
            "sheet(1, 0, 1) = 0; copy(1, 0, 1, 0, 0) = MISSING; read(1, 0) = MISSING; sheet(1, 8, 2) = 2", sheet(1, 0, 0));
        DUE.says(sentence, "sheet(3, 0, 0) = 0; write(3, 0, 0) = MISSING; sheet(3, 0, -1) = SIZE; sheet(3, 0, 11) = BEYOND");
        String findings = "BEYOND: no such sheet, or bits. SIZE: n is below 0. BEYOND: n is above 10.";
        DUE.refuses(findings, TOWN, "BEYOND", "sheet(-1, 8, 1)", "sheet(4, 8, 1)", "sheet(MIN, 8, 1)", "sheet(MAX, 8, 1)",
            "sheet(0, 1, 1)", "sheet(0, -1, 1)", "sheet(0, 7, 1)", "sheet(0, 9, 1)", "sheet(0, 15, 1)", "sheet(0, 17, 1)",
            "sheet(0, 24, 1)", "sheet(0, 31, 1)", "sheet(0, 33, 1)", "sheet(0, 64, 1)", "sheet(0, -8, 1)", "sheet(0, MIN, 1)",
            "sheet(0, MAX, 1)", "sheet(4, 8, -1)", "sheet(-1, 0, -1)", "sheet(0, 4, -1)", "sheet(0, 9, MIN)");
        DUE.refuses(findings, TOWN, "SIZE", "sheet(0, 8, -1)", "sheet(1, 16, -1)", "sheet(2, 32, -1)", "sheet(0, 0, -1)",
            "sheet(0, 8, MIN)", "sheet(3, 0, MIN)");
        DUE.refuses(findings, TOWN, "BEYOND", "sheet(0, 8, 11)", "sheet(1, 16, 11)", "sheet(2, 32, 11)", "sheet(0, 0, 11)",
            "sheet(0, 8, MAX)", "sheet(3, 0, MAX)");
    }

    private static void write() {
        String sentence = "Number i of a sheet becomes v (its lowest bits): what it was.";
        String eight = "sheet(0, 8, 1); ";
        DUE.says(sentence, eight, "write(0, 0, 127) = 0; write(0, 0, 128) = 127; write(0, 0, 255) = -128; write(0, 0, 256) = -1",
            "write(0, 0, -128) = 0; write(0, 0, -129) = -128; write(0, 0, MAX) = 127; write(0, 0, MIN) = -1; write(0, 0, 511) = 0",
            "write(0, 0, 0) = -1; told(6) = 0");
        DUE.says(sentence, "sheet(0, 16, 1); write(0, 0, 32767) = 0; write(0, 0, 32768) = 32767; write(0, 0, 65535) = -32768",
            "write(0, 0, 65536) = -1; write(0, 0, -32768) = 0; write(0, 0, -32769) = -32768; write(0, 0, MAX) = 32767",
            "write(0, 0, MIN) = -1; write(0, 0, 200) = 0; write(0, 0, 0) = 200");
        DUE.says(sentence, "sheet(0, 32, 1); write(0, 0, MAX) = 0; write(0, 0, MIN) = MAX; write(0, 0, -1) = MIN",
            "write(0, 0, 65536) = -1; write(0, 0, -65537) = 65536; write(0, 0, 0) = -65537");
        DUE.says(sentence, TOWN, "write(2, 4, 1) = 9; write(2, 0, 2) = 5", sheet(2, 2, 6, 7, 8, 1), sheet(0, 30, 1),
            sheet(1, 0, 0, 300));
        String findings = "BEYOND: no such sheet. MISSING. BEYOND: no such number.";
        DUE.refuses(findings, TOWN, "BEYOND", "write(-1, 0, 1)", "write(4, 0, 1)", "write(MIN, 0, 1)", "write(MAX, 0, 1)",
            "write(4, 99, 1)", "write(0, -1, 1)", "write(0, 2, 1)", "write(1, 3, 1)", "write(2, 5, 1)", "write(0, 10, 1)",
            "write(0, MIN, 1)", "write(0, MAX, 1)");
        DUE.refuses(findings, TOWN, "MISSING", "write(3, 0, 1)", "write(3, -1, 1)", "write(3, 10, 1)", "write(3, MIN, 1)",
            "write(3, MAX, 1)");
        DUE.refuses(findings, TOWN + "sheet(3, 8, 0);", "BEYOND", "write(3, 0, 1)", "write(3, -1, 1)");
    }

    private static void copy() {
        String sentence = "n numbers of a sheet from one on come to another one from one on (as they all were): n.";
        String two = TOWN + "sheet(3, 32, 3); write(3, 0, -1); write(3, 1, -2); write(3, 2, -3);";
        DUE.says(sentence, two, "copy(2, 0, 3, 0, 3) = 3", sheet(3, 5, 6, 7), sheet(2, 5, 6, 7, 8, 9), "copy(2, 4, 3, 2, 1) = 1",
            sheet(3, 5, 6, 9), "copy(3, 2, 2, 0, 1) = 1", sheet(2, 9, 6, 7, 8, 9));
        DUE.says(sentence, two, "copy(2, 0, 3, 0, 0) = 0; copy(2, 5, 3, 3, 0) = 0; copy(3, 3, 3, 3, 0) = 0", sheet(3, -1, -2, -3),
            sheet(2, 5, 6, 7, 8, 9));
        DUE.says(sentence, two, "copy(2, 0, 2, 1, 4) = 4", sheet(2, 5, 5, 6, 7, 8), "copy(2, 2, 2, 0, 3) = 3",
            sheet(2, 6, 7, 8, 7, 8), "copy(2, 0, 2, 0, 5) = 5", sheet(2, 6, 7, 8, 7, 8), "told(6) = 3");
        DUE.says(sentence, "sheet(0, 8, 10); write(0, 9, -7); sheet(1, 8, 10); copy(0, 0, 1, 0, 10) = 10; write(1, 9, 0) = -7",
            "copy(0, 9, 1, 0, 1) = 1; write(1, 0, 0) = -7");
        String findings = "BEYOND: no such sheet (either). MISSING: one is. KIND: they are not of as many bits. BEYOND: one "
            + "has not so many, or from, to or n is below 0.";
        DUE.refuses(findings, TOWN, "BEYOND", "copy(-1, 0, 0, 0, 1)", "copy(4, 0, 0, 0, 1)", "copy(0, 0, -1, 0, 1)",
            "copy(0, 0, 4, 0, 1)", "copy(MIN, 0, 0, 0, 1)", "copy(MAX, 0, 0, 0, 1)", "copy(0, 0, MIN, 0, 1)",
            "copy(0, 0, MAX, 0, 1)", "copy(3, 0, 4, 0, 1)", "copy(4, 0, 3, 0, 1)");
        DUE.refuses(findings, TOWN, "MISSING", "copy(3, 0, 0, 0, 1)", "copy(0, 0, 3, 0, 1)", "copy(3, 0, 3, 0, 0)",
            "copy(3, -1, 2, -1, -1)", "copy(1, 0, 3, 9, 9)");
        DUE.refuses(findings, TOWN, "KIND", "copy(0, 0, 1, 0, 1)", "copy(1, 0, 0, 0, 1)", "copy(0, 0, 2, 0, 0)",
            "copy(2, 0, 1, 0, 1)", "copy(0, -1, 1, 0, 1)", "copy(0, 0, 1, -1, 1)", "copy(0, 0, 1, 0, -1)", "copy(2, 9, 0, 9, 9)");
        DUE.refuses(findings, two, "BEYOND", "copy(2, 3, 3, 0, 3)", "copy(2, 0, 3, 1, 3)", "copy(2, 0, 3, 0, 4)",
            "copy(3, 0, 2, 0, 4)", "copy(2, 5, 3, 0, 1)", "copy(2, 0, 3, 3, 1)", "copy(2, -1, 3, 0, 1)", "copy(2, 0, 3, -1, 1)",
            "copy(2, 0, 3, 0, -1)", "copy(2, -1, 3, 0, 0)", "copy(2, 0, 3, -1, 0)", "copy(2, 2, 3, 2, -1)", "copy(2, 0, 2, 0, 6)",
            "copy(2, 1, 2, 0, 5)");
        DUE.refuses(findings, two, "BEYOND", "copy(2, MIN, 3, 0, 1)", "copy(2, MAX, 3, 0, 1)", "copy(2, 0, 3, MIN, 1)",
            "copy(2, 0, 3, MAX, 1)", "copy(2, 0, 3, 0, MIN)", "copy(2, 0, 3, 0, MAX)", "copy(2, MAX, 3, 0, MAX)",
            "copy(2, 1, 3, 1, MAX)", "copy(2, MIN, 3, 0, MIN)", "copy(2, MAX, 3, MAX, MAX)", "copy(2, MIN, 3, MIN, MAX)",
            "copy(2, MAX, 3, MAX, 2)");
    }

    private static void read() {
        String sentence = "PUPILS of STOP first and i become number i of a sheet, for all its numbers: how many there are.";
        DUE.says(sentence, TOWN, "read(0, 0) = 2; fair(0, 0) = 30; fair(1, 0) = 1; fair(2, 0) = 10; fair(3, 0) = 10",
            "read(0, 2) = 2; fair(2, 0) = 30; fair(3, 0) = 1; fair(0, 0) = 30; of(0, 5) = 62; told(6) = 0");
        DUE.says(sentence, Run.corners(1), "school(0, 0)", Run.times(10, "stop(0, 0, 10, 0)"), "sheet(3, 32, 10)",
            Run.times(10, "write(3, #, 2#)"), "read(3, 0) = 10; pupils(0, 1) = 20; pupils(9, 1) = 29; read(3, 1) = BEYOND",
            "read(3, -1) = BEYOND");
        String findings = "BEYOND: no such sheet. MISSING. BEYOND: there is no such STOP for one of them, or one is not 1 to "
            + "30 (a sheet of no numbers: first is not asked for).";
        DUE.refuses(findings, TOWN, "BEYOND", "read(-1, 0)", "read(4, 0)", "read(MIN, 0)", "read(MAX, 0)", "read(4, -1)");
        DUE.refuses(findings, TOWN, "MISSING", "read(3, 0)", "read(3, -1)", "read(3, 4)", "read(3, MIN)", "read(3, MAX)");
        DUE.refuses(findings, TOWN, "BEYOND", "read(0, -1)", "read(0, 3)", "read(0, 4)", "read(0, MIN)", "read(0, MAX)",
            "read(2, 0)", "read(2, -1)", "read(1, 0)", "read(1, 1)");
        String last = TOWN + "write(0, 0, 5); write(0, 1, ";
        DUE.refuses(findings, last + "0);", "BEYOND", "read(0, 0)", "read(0, 2)");
        DUE.refuses(findings, last + "31);", "BEYOND", "read(0, 0)", "read(0, 2)");
        DUE.refuses(findings, last + "-1);", "BEYOND", "read(0, 0)");
        DUE.refuses(findings, TOWN + "write(0, 0, 31);", "BEYOND", "read(0, 0)");
        DUE.refuses(findings, TOWN + "write(2, 4, MIN); sheet(3, 32, 2); copy(2, 3, 3, 0, 2);", "BEYOND", "read(3, 0)");
        // 257 is 1 in 8 bits, 65537 in 16.
        DUE.says(findings, TOWN, "write(0, 0, 257); read(0, 0) = 2; fair(0, 0) = 1; write(1, 0, 65537); write(1, 1, 2)",
            "write(1, 2, 30); read(1, 1) = 3; fair(1, 0) = 1; fair(2, 0) = 2; fair(3, 0) = 30");
        DUE.says(findings, TOWN, "sheet(3, 16, 0); read(3, 0) = 0; read(3, -1) = 0; read(3, 4) = 0; read(3, MIN) = 0",
            "read(3, MAX) = 0; of(0, 5) = 40; told(6) = 0");
        DUE.says(findings, "sheet(3, 16, 0); read(3, 0) = 0; read(3, MAX) = 0; sheet(3, 16, 1); write(3, 0, 1)",
            "read(3, 0) = BEYOND");
    }

    private static void told() {
        DUE.says("0 CORNERS, 1 streets, 2 SCHOOLS, 3 STOPS, 4 RULES, 5 bytes of the tape", Run.line(8, 1),
            Run.times(7, "street(0, 7, 1)"), Run.times(4, "school(0, 0)"), Run.times(10, "stop(0, 0, 1, 0)"),
            Run.tape("s0-6;".repeat(8)), "text() = 8", Run.times(60, "feed(0, 1)"), "told(0) = 8; told(1) = 14; told(2) = 4",
            "told(3) = 10; told(4) = 8; told(5) = 60; told(6) = 0");
        DUE.says("0 CORNERS, 1 streets, 2 SCHOOLS, 3 STOPS, 4 RULES, 5 bytes of the tape", Run.line(6, 1),
            Run.times(3, "school(0, 0)"), Run.times(4, "stop(0, 0, 1, 0)"), Run.tape("s0-6;l0-6;"), "text() = 2; feed(0, 1)",
            "told(0) = 6; told(1) = 5; told(2) = 3; told(3) = 4; told(4) = 2; told(5) = 1; told(6) = 0");
        DUE.says("6 how many acts answered a finding ever (this one, too, if it does)", "told(6) = 0; told(7) = BEYOND",
            "told(6) = 1; told(6) = 1; told(-1) = BEYOND; told(6) = 2; far(0, 0) = BEYOND; told(6) = 3; text() = 0; told(6) = 3");
        // What is answered as it was is no finding, however low: nothing was refused.
        DUE.says("6 how many acts answered a finding ever (this one, too, if it does)", "sheet(0, 32, 1)",
            "write(0, 0, -1000001) = 0; write(0, 0, MIN) = -1000001; write(0, 0, 0) = MIN; told(6) = 0");
        DUE.refuses("BEYOND: another what.", TOWN, "BEYOND", "told(-1)", "told(7)", "told(MIN)", "told(MAX)");
    }

    public static void main(String[] args) {
        sheets();
        write();
        copy();
        read();
        told();
        DUE.end();
    }
}
