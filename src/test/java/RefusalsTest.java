/**
 * "Each act tells its findings in the order in which they are asked; an act that answers one changes nothing but what told(6)
 * tells, or where told": every act is refused, for each of its findings, where there is much that could change.
 */
public final class RefusalsTest {
    private static final Due DUE = new Due("RefusalsTest");
    private static final String SENTENCE = "an act that answers one changes nothing but what told(6) tells, or where told";

    /** A street that is shut, three schools away from their wishes, rules and a tape, three sheets, and a morning. */
    private static final String RICH = Run.line(4, 5) + "street(3, 0, 9); street(0, 2, 3); shut(4, true);"
        + "school(0, 0); school(3, 2); school(1, 3); stop(0, 1, 20, 0); stop(0, 2, 15, 1); stop(0, 3, 10, 1); stop(1, 0, 5, 2);"
        + "stop(1, 3, 5, 3); stop(2, 0, 7, 0);"
        + "bell(1, 3); bell(2, 5); wish(0, 1); wish(2, 6); terms(30, 62, 2);" + Run.tape("l1-6;u0-3;") + "text();" + Run.tape("s2-5;x3")
        + "sheet(0, 8, 3); write(0, 0, 11); write(0, 1, -12); write(0, 2, 13); sheet(1, 16, 2); write(1, 1, 999);"
        + "sheet(2, 8, 0); morning(0, 40, 1);";

    /** The same, where school 1 has no plan any more. */
    private static final String NO_PLAN = RICH + "pupils(4, 30); terms(29, 62, 2);";

    /** The same, where no bell is allowed for school 2. */
    private static final String NO_BELL = RICH + "text();" + Run.tape("l0-0;l1-1;") + "text();" + Run.tape("u4");

    /** As many of all as there can be. */
    private static final String FULL = Run.line(8, 3) + Run.times(7, "street(0, 7, 1#)")
        + Run.times(4, "school(#, #); bell(#, #); stop(#, 7, 2#, #); stop(#, 5, 1#, #)") + "stop(0, 6, 30, 3); stop(3, 4, 30, 3);"
        + Run.tape("s0-6;l0-5;u1-6;x2-4;s0-5;l1-6;u2-3;x1-4;") + "text();" + Run.tape("s0-6;".repeat(12))
        + "terms(40, 90, 0); morning(1, 20, 2);";

    private static void refuses(String built, String finding, String... calls) {
        DUE.refuses(SENTENCE, built, finding, calls);
    }

    /** Two findings or more could be told: it is the first one that is asked for. */
    private static void order() {
        String sentence = "Each act tells its findings in the order in which they are asked";
        DUE.says(sentence, FULL, "street(0, 0, 1) = BEYOND; street(0, 8, 1) = BEYOND; street(0, 1, 21) = BEYOND",
            "street(0, 1, 20) = FULL");
        DUE.says(sentence, FULL, "school(4, 0) = BEYOND; school(0, 8) = BEYOND; school(0, 7) = FULL");
        DUE.says(sentence, FULL, "stop(4, 0, 1, 0) = BEYOND; stop(0, 8, 1, 0) = BEYOND; stop(0, 0, 31, 0) = BEYOND",
            "stop(0, 0, 1, 4) = BEYOND; stop(0, 0, 1, 3) = FULL");
        DUE.says(sentence, FULL, "feed(0, 9) = BEYOND; feed(0, 0) = BEYOND; feed(0, 8) = FULL");
        DUE.says(sentence, RICH, "as(9, 1) = BEYOND; as(0, 4) = BEYOND; as(0, 3) = KIND");
        DUE.says(sentence, NO_PLAN, "routes(3) = BEYOND; routes(1) = NONE; route(1, -1, 0) = BEYOND; route(1, 0, -2) = BEYOND",
            "route(1, 9, 0) = NONE; ride(6) = BEYOND; ride(4) = NONE");
        DUE.says(sentence, NO_PLAN, "start(-1) = BEYOND; start(9) = NONE; follows(9, 9) = BEYOND; follows(-1, 9) = BEYOND",
            "follows(9, -1) = BEYOND; follows(9, 8) = NONE");
        DUE.says(sentence, NO_PLAN, "chain(9, -1) = BEYOND; chain(-1, 9) = BEYOND; chain(9, 9) = NONE; trade(9, 5) = BEYOND",
            "trade(9, -1) = BEYOND; trade(-1, 0) = BEYOND; trade(9, 4) = NONE");
        DUE.says(sentence, NO_PLAN, "take(-1) = BEYOND; take(9) = NONE; morning(9, 61, 0) = BEYOND; morning(9, 0, 11) = BEYOND",
            "morning(-1, 0, 0) = BEYOND; morning(9, 60, 10) = NONE");
        DUE.says(sentence, NO_PLAN, "comes(-1) = BEYOND; comes(9) = NONE; fair(4, 1) = BEYOND; fair(-1, 2) = BEYOND",
            "fair(0, 2) = NONE");
        DUE.says(sentence, RICH, "sheet(4, 8, -1) = BEYOND; sheet(0, 9, -1) = BEYOND; sheet(0, 8, -1) = SIZE",
            "sheet(0, 8, 11) = BEYOND");
        DUE.says(sentence, RICH, "write(4, 99, 0) = BEYOND; write(3, 99, 0) = MISSING; write(0, 99, 0) = BEYOND",
            "read(4, 99) = BEYOND; read(3, 99) = MISSING; read(0, 99) = BEYOND");
        DUE.says(sentence, RICH, "copy(3, 0, 4, 0, -1) = BEYOND; copy(4, 0, 3, 0, -1) = BEYOND; copy(3, 0, 1, 0, -1) = MISSING",
            "copy(0, 0, 3, 9, 9) = MISSING; copy(0, 9, 1, 0, 9) = KIND; copy(1, 0, 0, 0, -1) = KIND; copy(0, 9, 0, 0, 9) = BEYOND");
    }

    private static void town() {
        refuses(RICH, "BEYOND", "street(0, 4, 1)", "street(-1, 0, 1)", "street(2, 2, 1)", "street(0, 1, 0)", "street(0, 1, 21)",
            "shut(5, true)", "shut(-1, false)", "far(0, 4)", "far(-1, 0)", "school(4, 0)", "school(0, 4)", "as(3, 0)", "as(0, 4)",
            "of(3, 0)", "of(0, 7)", "bell(3, 0)", "bell(0, 7)", "wish(3, 0)", "wish(0, 7)", "bell(0, -1)", "wish(0, -1)",
            "stop(3, 0, 1, 0)", "stop(0, 4, 1, 0)", "stop(0, 0, 31, 0)", "stop(0, 0, 1, 4)", "pupils(6, 1)", "pupils(0, 31)",
            "pupils(0, 0)", "gone(6)", "gone(-1)", "terms(61, 60, 0)", "terms(40, 91, 0)", "terms(40, 60, 31)", "terms(0, 1, 1)",
            "terms(1, 0, 1)", "terms(1, 1, -1)");
        refuses(RICH, "KIND", "as(0, 1)", "as(1, 2)", "as(2, 3)");
        refuses(RICH + "shut(0, true); shut(3, true);", "NONE", "far(0, 1)", "far(2, 0)");
        refuses(FULL, "FULL", "corner()", "street(0, 1, 1)", "school(0, 0)", "stop(0, 0, 1, 0)", "feed(0, 1)", "feed(-1, 8)");
        refuses(FULL, "BEYOND", "street(0, 8, 1)", "street(3, 3, 1)", "street(0, 1, 21)", "school(4, 0)", "school(0, 8)",
            "stop(4, 0, 1, 0)", "stop(0, 8, 1, 0)", "stop(0, 0, 0, 0)", "stop(0, 0, 1, 4)", "feed(0, 9)", "shut(14, true)",
            "gone(10)", "pupils(10, 1)", "bell(4, 0)", "wish(4, 0)", "ride(10)", "routes(4)", "allowed(4, 0)");
    }

    private static void routes() {
        refuses(RICH, "BEYOND", "routes(3)", "routes(-1)", "route(3, 0, 0)", "route(0, -1, 0)", "route(0, 0, -2)", "ride(6)",
            "ride(-1)", "start(-1)", "follows(-1, 0)", "follows(1, 1)", "chain(-1, 0)", "chain(0, -1)");
        refuses(RICH, "NONE", "route(0, 2, 0)", "route(1, 1, -1)", "start(9)", "follows(0, 9)", "follows(9, 0)", "chain(9, 0)");
        refuses(NO_PLAN, "NONE", "routes(1)", "route(1, 0, 0)", "ride(3)", "ride(4)", "all()", "start(0)", "follows(0, 1)",
            "buses()", "chain(0, 0)", "aides()", "trades()", "trade(0, 0)", "take(0)", "morning(0, 0, 0)", "fair(0, 1)",
            "fair(3, 2)");
    }

    private static void rules() {
        refuses(RICH, "BEYOND", "feed(0, 0)", "feed(0, 9)", "allowed(3, 0)", "allowed(0, 7)", "trade(-1, 0)", "trade(0, -1)",
            "trade(0, 5)", "take(-1)");
        refuses(RICH, "NONE", "trade(9, 0)", "take(9)");
        refuses(NO_BELL, "NONE", "trades()", "trade(0, 0)", "take(0)");
        refuses(RICH, "WRONG 7", "text()");
        refuses(RICH + Run.tape("-;"), "WRONG 8", "text()");
        refuses(FULL, "WRONG 40", "text()");
        DUE.says("The tape is empty then, whatever is answered.", RICH, "told(4) = 2; told(5) = 7; text() = WRONG 7; told(4) = 2",
            "told(5) = 0");
    }

    private static void mornings() {
        refuses(RICH, "BEYOND", "morning(-1, 0, 0)", "morning(0, 61, 0)", "morning(0, -1, 0)", "morning(0, 0, 11)",
            "morning(0, 0, -1)", "comes(-1)", "fair(4, 0)", "fair(0, 4)");
        refuses(RICH, "NONE", "morning(9, 0, 0)", "comes(9)");
    }

    private static void sheets() {
        refuses(RICH, "BEYOND", "sheet(4, 8, 1)", "sheet(0, 9, 1)", "sheet(0, 8, 11)", "sheet(0, 0, 11)", "write(4, 0, 1)",
            "write(0, 3, 1)", "write(2, 0, 1)", "copy(4, 0, 0, 0, 1)", "copy(0, 0, 4, 0, 1)", "copy(0, 1, 0, 0, 3)",
            "copy(0, 0, 0, 1, 3)", "copy(0, 0, 2, 0, 1)", "copy(0, 0, 0, 1, -1)", "read(4, 0)", "read(0, 4)", "read(0, -1)",
            "read(0, 0)", "told(7)", "told(-1)");
        refuses(RICH, "SIZE", "sheet(0, 8, -1)", "sheet(0, 0, -1)", "sheet(3, 32, -1)");
        refuses(RICH, "MISSING", "write(3, 0, 1)", "copy(3, 0, 0, 0, 1)", "copy(0, 0, 3, 0, 1)", "read(3, 0)");
        refuses(RICH, "KIND", "copy(0, 0, 1, 0, 1)", "copy(1, 0, 2, 0, 0)");
    }

    public static void main(String[] args) {
        order();
        town();
        routes();
        rules();
        mornings();
        sheets();
        DUE.end();
    }
}
