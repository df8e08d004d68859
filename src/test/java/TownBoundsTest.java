/** Sentence by sentence: the findings, the corners and streets of 'Terms', and promises 1 to 5. */
public final class TownBoundsTest {
    private static final Due DUE = new Due("TownBoundsTest");

    private static void everyCall() {
        DUE.says("An object is used for at most 512 calls after it has been made", Run.corners(8),
            Run.times(502, "told(7) = -1000001"), "far(7, 7) = 0; told(6) = 502");
    }

    private static void findings() {
        DUE.says("FINDINGS are answers below -1000000", Run.corners(8), "far(0, 1) = -1000004; corner() = -1000002; told(6) = 2",
            Run.times(8, "far(#, #) = 0"), "told(6) = 2");
        DUE.says("-1000001 BEYOND", "told(7) = -1000001");
        DUE.says("-1000002 FULL", Run.corners(8), "corner() = -1000002");
        DUE.says("-1000003 KIND", Run.corners(1), "school(0, 0); as(0, 1) = -1000003");
        DUE.says("-1000004 NONE", Run.corners(2), "far(0, 1) = -1000004");
        DUE.says("-1000005 MISSING", "write(0, 0, 0) = -1000005");
        DUE.says("-1000006 SIZE", "sheet(0, 8, -1) = -1000006");
        DUE.says("and -1000100 WRONG (and less)", Run.tape("q"), "text() = -1000100", Run.tape("s"), "text() = -1000101",
            Run.tape("s0-6;".repeat(9)), "text() = -1000140; told(6) = 3");
        DUE.says("Minutes can be below 0.", Run.corners(6), "street(0, 1, 20); street(1, 2, 20); street(2, 3, 20)",
            "street(3, 4, 20); street(4, 5, 9); school(0, 0); stop(0, 5, 1, 0); terms(1, 90, 0); route(0, 0, -1) = 90",
            "start(0) = -30; morning(0, 0, 0) = 0; comes(0) = 60");
    }

    private static void newObject() {
        String sentence = "No CORNERS, STREETS, SCHOOLS, STOPS, RULES; an empty tape; sheets MISSING.";
        DUE.says(sentence, Run.times(7, "told(#) = 0"));
        DUE.says(sentence, Run.times(4, "write(#, 0, 0) = MISSING"), Run.times(4, "read(#, 0) = MISSING"),
            Run.times(4, "copy(#, 0, #, 0, 0) = MISSING"));
        DUE.says(sentence, "text() = 0; told(4) = 0; told(5) = 0; told(6) = 0");
        DUE.says(sentence, "all() = 0; buses() = 0; aides() = 0; cost() = 0; trades() = 1; trade(0, 0) = 0; trade(0, 1) = 0",
            "take(0) = 0", Run.times(4, "fair(#, 0) = 0; fair(#, 1) = 0; fair(#, 2) = 0; fair(#, 3) = 0"), "told(6) = 0");
        DUE.refuses(sentence, "", "BEYOND", "street(0, 1, 1)", "shut(0, true)", "shut(0, false)", "far(0, 0)", "school(0, 0)",
            "as(0, 0)", "of(0, 0)", "bell(0, 0)", "wish(0, 3)", "stop(0, 0, 1, 0)", "pupils(0, 1)", "gone(0)", "routes(0)",
            "route(0, 0, 0)", "ride(0)", "allowed(0, 0)", "trade(0, 2)");
        DUE.refuses(sentence, "", "NONE", "start(0)", "follows(0, 1)", "chain(0, 0)", "trade(1, 0)", "take(1)", "morning(0, 0, 0)",
            "comes(0)");
        objectsShareNothing();
    }

    private static void objectsShareNothing() {
        BellWaves x = Due.row(2, 1);
        x.school(0, 0);
        x.stop(0, 0, 1, 0);
        Due.feedText(x, "s0-0;");
        x.text();
        x.feed(1, 1);
        x.sheet(0, 8, 1);
        x.morning(0, 0, 0);
        x.told(9);
        BellWaves y = new BellWaves();
        for (int what = 0; what < 7; what++) {
            DUE.is("told(" + what + ") of a new object beside a full one", y.told(what), 0);
        }
        DUE.is("its sheet 0", y.write(0, 0, 0), Due.MISSING);
        DUE.is("its morning", y.comes(0), Due.NONE);
    }

    private static void corner() {
        DUE.says("CORNERS 0, 1, .. (at most 8).", Run.times(8, "told(0) = #; corner() = #"), "told(0) = 8; corner() = FULL",
            "corner() = FULL; told(0) = 8");
        DUE.says("A new CORNER: its number. FULL.", Run.times(7, "corner() = #"), "far(7, 7) = BEYOND; corner() = 7; far(7, 7) = 0",
            "corner() = FULL; far(8, 8) = BEYOND; told(6) = 3");
    }

    private static void street() {
        DUE.says("STREETS 0, 1, .. (at most 14)", Run.corners(2), Run.times(14, "told(1) = #; street(0, 1, 20) = #"),
            "told(1) = 14; street(0, 1, 1) = FULL; street(1, 0, 20) = FULL; far(0, 1) = 20; told(1) = 14");
        DUE.says("STREETS 0, 1, .. (at most 14)", Run.corners(2), Run.times(14, "street(0, 1, 20)"),
            Run.times(14, "shut(#, true) = 1"), "street(0, 1, 5) = FULL; far(0, 1) = NONE; shut(13, false) = 1; far(0, 1) = 20");
        DUE.says("join two unlike CORNERS", Run.corners(2), "street(0, 0, 5) = BEYOND; street(1, 1, 5) = BEYOND",
            "street(0, 1, 5) = 0; street(1, 0, 5) = 1");
        DUE.says("take MINUTES (1 to 20)", Run.corners(3), "street(0, 1, 0) = BEYOND; street(0, 1, 1) = 0; street(1, 2, 20) = 1",
            "street(1, 2, 21) = BEYOND; far(0, 1) = 1; far(1, 2) = 20; far(0, 2) = 21");
        DUE.says("A new street: its number.", Run.corners(8), "street(7, 0, 3) = 0; street(0, 7, 2) = 1; street(6, 7, 1) = 2",
            "far(0, 6) = 3; told(1) = 3");
        String sentence = "BEYOND: no such CORNER (either), they are one, or minutes is not 1 to 20. FULL.";
        DUE.refuses(sentence, "", "BEYOND", "street(0, 1, 1)", "street(0, 0, 1)");
        DUE.refuses(sentence, Run.corners(1), "BEYOND", "street(0, 1, 1)", "street(1, 0, 1)", "street(0, 0, 1)");
        DUE.refuses(sentence, Run.line(2, 7), "BEYOND", "street(-1, 0, 5)", "street(0, -1, 5)", "street(2, 0, 5)",
            "street(0, 2, 5)", "street(MIN, 0, 5)", "street(MAX, 0, 5)", "street(0, MIN, 5)", "street(0, MAX, 5)",
            "street(-1, -1, 5)", "street(2, 2, 5)");
        DUE.refuses(sentence, Run.line(8, 7), "BEYOND", "street(8, 0, 5)", "street(0, 8, 5)", "street(7, 7, 5)", "street(-1, 7, 5)",
            "street(0, 1, 0)", "street(0, 1, 21)", "street(0, 1, -1)", "street(0, 1, MIN)", "street(0, 1, MAX)");
        String full = Run.corners(2) + Run.times(14, "street(0, 1, 9)");
        DUE.refuses(sentence, full, "FULL", "street(0, 1, 1)", "street(1, 0, 20)");
        DUE.refuses(sentence, full, "BEYOND", "street(0, 2, 1)", "street(-1, 0, 1)", "street(1, 1, 1)", "street(0, 1, 0)",
            "street(0, 1, 21)");
    }

    private static void shut() {
        DUE.says("and are open (at first) or SHUT", Run.corners(2), "street(0, 1, 5); far(0, 1) = 5; shut(0, true) = 1",
            "street(0, 1, 8) = 1; far(0, 1) = 8; shut(1, false) = 0; shut(1, true) = 1; far(0, 1) = NONE");
        DUE.says("A street is SHUT, or open: 1 if that is new, else 0. BEYOND.", Run.line(3, 5), "shut(0, false) = 0",
            "shut(0, true) = 1; shut(0, true) = 0; shut(1, false) = 0; shut(0, false) = 1; shut(0, false) = 0; shut(1, true) = 1",
            "shut(0, false) = 0; told(1) = 2; told(6) = 0");
        DUE.refuses("A street is SHUT, or open: 1 if that is new, else 0. BEYOND.", Run.line(3, 5), "BEYOND", "shut(2, true)",
            "shut(2, false)", "shut(-1, true)", "shut(-1, false)", "shut(MIN, true)", "shut(MAX, true)");
        String full = Run.corners(2) + Run.times(14, "street(0, 1, 9)");
        DUE.says("A street is SHUT, or open: 1 if that is new, else 0. BEYOND.", full, "shut(13, true) = 1",
            "shut(14, true) = BEYOND; shut(13, false) = 1");
        DUE.says("A street is SHUT, or open: 1 if that is new, else 0. BEYOND.", "shut(0, true) = BEYOND", Run.corners(2),
            "shut(0, true) = BEYOND; street(0, 1, 1); shut(0, true) = 1");
    }

    private static void far() {
        DUE.says("the least sum of MINUTES of streets that are open", Run.line(3, 5), "street(0, 2, 11) = 2; far(0, 2) = 10",
            "shut(0, true); far(0, 2) = 11; far(0, 1) = 16; shut(1, true); far(0, 1) = NONE; far(2, 0) = 11; shut(0, false)",
            "far(0, 2) = 11; far(1, 2) = 16");
        DUE.says("the least sum of MINUTES of streets that are open", Run.line(3, 5), "street(0, 2, 10) = 2; far(0, 2) = 10",
            "street(2, 0, 9) = 3; far(0, 2) = 9; street(0, 2, 20) = 4; far(2, 0) = 9; shut(3, true); far(0, 2) = 10");
        DUE.says("lead from the one to the other", Run.line(8, 20), "far(0, 7) = 140; far(7, 0) = 140; far(3, 5) = 40",
            "street(7, 0, 1); far(0, 7) = 1; far(0, 6) = 21; far(1, 5) = 61; far(1, 6) = 41");
        DUE.says("0 of one and itself", Run.corners(2), "far(0, 0) = 0; far(1, 1) = 0; street(0, 1, 1); far(0, 0) = 0",
            "shut(0, true); far(1, 1) = 0");
        DUE.says("there may be none", Run.corners(4), "far(0, 1) = NONE; street(0, 1, 2); street(2, 3, 3); far(0, 1) = 2",
            "far(3, 2) = 3; far(1, 2) = NONE; far(3, 0) = NONE; street(1, 2, 4); far(3, 0) = 9; corner() = 4; far(4, 0) = NONE",
            "far(0, 4) = NONE");
        String sentence = "FAR of two CORNERS. BEYOND: no such CORNER (either). NONE: there is none.";
        DUE.refuses(sentence, Run.line(2, 5), "BEYOND", "far(-1, 0)", "far(0, -1)", "far(2, 0)", "far(0, 2)", "far(2, 2)",
            "far(-1, -1)", "far(MIN, 0)", "far(MAX, 0)", "far(0, MIN)", "far(0, MAX)", "far(MAX, MAX)");
        DUE.refuses(sentence, Run.line(8, 5), "BEYOND", "far(8, 0)", "far(7, 8)", "far(8, 8)");
        DUE.refuses(sentence, Run.corners(2), "NONE", "far(0, 1)", "far(1, 0)");
        DUE.refuses(sentence, Run.corners(2), "BEYOND", "far(0, 2)", "far(2, 0)");
    }

    public static void main(String[] args) {
        everyCall();
        findings();
        newObject();
        corner();
        street();
        shut();
        far();
        DUE.end();
    }
}
