/** Sentence by sentence: mornings, rides and quarters of 'Terms', and promises 31 to 33. */
public final class MorningBoundsTest {
    private static final Due DUE = new Due("MorningBoundsTest");

    /** Three schools in a row, three minutes between them, a stop beside each; one bus drives 0, 1, 2. */
    private static final String ROW = Run.line(3, 3) + Run.times(3, "school(#, #); stop(#, #, 1#, #); bell(#, #)");

    /** One school, one stop a street of 20 minutes away. */
    private static final String ONE = Run.line(2, 20) + "school(0, 0); stop(0, 1, 7, 2);";

    private static final String NO_PLAN = ROW + "morning(1, 5, 0); terms(11, 60, 0);";

    private static String comes(int... minutes) {
        StringBuilder rows = new StringBuilder();
        for (int r = 0; r < minutes.length; r++) {
            rows.append("comes(").append(r).append(") = ").append(minutes[r]).append("; ");
        }
        return rows.append("comes(").append(minutes.length).append(") = NONE; ").toString();
    }

    private static void late() {
        DUE.says("PUPILS of a ROUTE that COMES behind the BELL are late.", ONE, "morning(0, 0, 0) = 0", comes(60),
            "morning(0, 1, 0) = 7", comes(61), "morning(0, 0, 1) = 7", comes(61));
        DUE.says("PUPILS of a ROUTE that COMES behind the BELL are late.", ROW, "morning(0, 16, 0) = 10", comes(76, 80, 100),
            "morning(0, 17, 0) = 21", comes(77, 81, 100), "morning(0, 32, 0) = 21", comes(92, 96, 100), "morning(0, 33, 0) = 33",
            comes(93, 97, 101), "pupils(1, 30); morning(0, 17, 0) = 40; stop(1, 1, 2, 0); morning(0, 15, 0) = 10",
            "morning(0, 16, 0) = 42");
        // All ten stops are late: 300 pupils.
        DUE.says("PUPILS of a ROUTE that COMES behind the BELL are late.", Run.line(2, 1), "school(0, 0)",
            Run.times(10, "stop(0, 1, 30, 0)"), "terms(30, 2, 0); morning(9, 0, 1) = 300; morning(9, 1, 0) = 30; comes(9) = 61",
            "comes(8) = 60");
        DUE.says("a ROUTE is late by some minutes, and each street takes some minutes more of snow", ONE, "morning(0, 60, 10) = 7",
            comes(130), "morning(0, 60, 0) = 7", comes(120), "morning(0, 0, 10) = 7", comes(70));
        DUE.says("The first ROUTE of a BUS begins at its START", ROW, "start(0) = 59; morning(2, 60, 0) = 12", comes(60, 80, 160),
            "bell(0, 6); buses() = 1; chain(0, 0) = 1; morning(2, 0, 10) = 0", comes(180, 80, 100));
    }

    private static void followers() {
        String later = "one that FOLLOWS at the later of its START and of when the BUS can be at its first STOP";
        // Route 1 starts at 79: the bus is there at 63 and waits, or at 79 with 16 minutes, or at 80 with 17.
        DUE.says(later, ROW, "morning(0, 0, 0) = 0", comes(60, 80, 100), "morning(0, 16, 0) = 10", comes(76, 80, 100),
            "morning(0, 17, 0) = 21", comes(77, 81, 100), "morning(0, 60, 0) = 33", comes(120, 124, 128));
        // SLACK is for who can FOLLOW, and not for a MORNING.
        DUE.says(later, ROW, "terms(40, 60, 16); buses() = 1; morning(0, 16, 0) = 10", comes(76, 80, 100));
        // The way to the next first stop takes its snow as well: 60 + 7 and 3 + 10 are 80.
        DUE.says(later, ROW, "morning(0, 6, 10) = 10", comes(66, 80, 100), "morning(0, 7, 10) = 21", comes(67, 81, 100));
        // Route 0 is the last of its bus, behind 1 and 2.
        DUE.says(later, ROW, "bell(0, 3); chain(0, 0) = 1; chain(0, 1) = 2; chain(0, 2) = 0; morning(2, 12, 0) = 12",
            comes(120, 80, 112), "morning(2, 13, 0) = 12", comes(120, 80, 113), "morning(2, 14, 0) = 22", comes(121, 80, 114),
            "morning(1, 60, 0) = 33", comes(151, 140, 144));
        String lateOne = "the one that is late so many minutes later than that";
        DUE.says(lateOne, ROW, "morning(1, 1, 0) = 11", comes(60, 81, 100), "morning(1, 16, 0) = 11", comes(60, 96, 100),
            "morning(1, 17, 0) = 23", comes(60, 97, 101), "morning(2, 1, 0) = 12", comes(60, 80, 101));
        // The bus is late at route 1 by snow already: 5 minutes come on top of that, not in place of it.
        DUE.says(lateOne, Run.line(2, 15), "school(0, 0); school(0, 1); stop(0, 0, 4, 0); stop(1, 1, 8, 0); bell(1, 1)",
            "buses() = 1; morning(1, 0, 10) = 8", comes(60, 86), "morning(1, 5, 10) = 8", comes(60, 91), "morning(0, 5, 10) = 12",
            comes(65, 91), "morning(1, 0, 4) = 0", comes(60, 80), "morning(1, 0, 5) = 8", comes(60, 81));
        // Only the bus that has the late route is late.
        DUE.says(lateOne, Run.corners(1), Run.times(4, "school(0, 0); stop(#, 0, 1#, 0)"), "bell(2, 1); bell(3, 1); buses() = 2",
            "morning(1, 60, 0) = 24", comes(60, 120, 80, 121), "morning(0, 60, 0) = 22", comes(120, 60, 121, 80));
    }

    private static void snow() {
        DUE.says("It COMES its LENGTH (with snow) later.", ONE, "morning(0, 0, 3) = 7", comes(63), "route(0, 0, -1) = 21",
            "start(0) = 39; far(0, 1) = 20");
        // With snow the one street is shorter than the two: 4 + 5 and not 2 + 10.
        DUE.says("by the FAR that is with snow", Run.line(3, 1), "street(0, 2, 4); school(0, 0); stop(0, 2, 8, 0); start(0) = 57",
            "morning(0, 0, 2) = 8", comes(57 + 1 + 6), "morning(0, 0, 3) = 8", comes(57 + 1 + 7), "morning(0, 0, 5) = 8",
            comes(57 + 1 + 9), "shut(2, true); morning(0, 0, 5) = 8", comes(57 + 1 + 12), "far(0, 2) = 2");
        // With snow the other order would be shorter, but the order that is told without snow is driven.
        DUE.says("with their ROUTES' orders as they are told without snow", Run.line(3, 1), "corner(); street(0, 3, 3)",
            "school(0, 0); stop(0, 2, 2, 0); stop(0, 3, 3, 0); route(0, 0, 0) = 1; start(0) = 51; morning(0, 0, 5) = 5",
            comes(51 + 2 + 20 + 12));
        // With snow route 1 could not follow route 0, but the chains are driven as they are.
        DUE.says("BUSES drive THE CHAINS", Run.line(2, 19), "school(0, 0); school(0, 1); stop(0, 0, 4, 0); stop(1, 1, 8, 0)",
            "bell(1, 1); buses() = 1; morning(0, 0, 1) = 8", comes(60, 81), "buses() = 1");
    }

    private static void morning() {
        String sentence = "A MORNING in which a ROUTE is late by minutes (0 to 60), and each street takes snow (0 to 10) "
            + "minutes more: how many PUPILS are late.";
        DUE.says(sentence, ONE, "morning(0, 0, 0) = 0; morning(0, 60, 0) = 7; morning(0, 0, 10) = 7; morning(0, 60, 10) = 7",
            "told(6) = 0; start(0) = 39; far(0, 1) = 20");
        String beyond = "BEYOND: route is below 0, late or snow not as told. NONE: a SCHOOL has no PLAN, or there is no such "
            + "ROUTE.";
        String driven = ROW + "morning(1, 5, 0);";
        DUE.refuses(beyond, driven, "BEYOND", "morning(-1, 0, 0)", "morning(MIN, 0, 0)", "morning(0, -1, 0)", "morning(0, 61, 0)",
            "morning(0, MIN, 0)", "morning(0, MAX, 0)", "morning(0, 0, -1)", "morning(0, 0, 11)", "morning(0, 0, MIN)",
            "morning(0, 0, MAX)", "morning(3, 61, 0)", "morning(3, -1, 0)", "morning(3, 0, 11)", "morning(3, 0, -1)",
            "morning(MAX, 61, 0)");
        DUE.refuses(beyond, driven, "NONE", "morning(3, 0, 0)", "morning(3, 60, 10)", "morning(MAX, 0, 0)");
        DUE.refuses(beyond, NO_PLAN, "NONE", "morning(0, 0, 0)", "morning(2, 60, 10)");
        DUE.refuses(beyond, NO_PLAN, "BEYOND", "morning(-1, 0, 0)", "morning(0, 61, 0)", "morning(0, 0, 11)");
        DUE.refuses(beyond, "", "NONE", "morning(0, 0, 0)");
        DUE.refuses(beyond, Run.corners(1) + "school(0, 0);", "NONE", "morning(0, 0, 0)");
    }

    private static void comesCall() {
        String sentence = "The minute at which a ROUTE COMES in the latest morning() that answered no finding (as it was then).";
        DUE.says(sentence, ROW, "morning(0, 16, 0)", comes(76, 80, 100), "morning(1, 20, 0)", comes(60, 100, 104),
            "morning(3, 0, 0) = NONE; morning(0, 61, 0) = BEYOND", comes(60, 100, 104));
        DUE.says(sentence, ROW, "morning(1, 20, 0); bell(0, 6); gone(0); stop(2, 0, 30, 3); shut(0, true); shut(1, true)",
            "terms(1, 1, 30); all() = NONE", comes(60, 100, 104), "morning(0, 0, 0) = NONE", comes(60, 100, 104));
        DUE.says(sentence, ROW, "morning(1, 20, 0); gone(0) = 2; gone(0) = 1; morning(0, 2, 0) = 12", comes(102), "gone(0) = 0",
            "morning(0, 0, 0) = NONE", comes(102));
        String none = "BEYOND: it is below 0. NONE: there was no such MORNING, or it had no such ROUTE.";
        DUE.refuses(none, ROW, "NONE", "comes(0)", "comes(2)", "comes(3)", "comes(MAX)");
        DUE.refuses(none, ROW, "BEYOND", "comes(-1)", "comes(MIN)");
        DUE.refuses(none, ROW + "morning(0, 61, 0); morning(3, 0, 0);", "NONE", "comes(0)");
        String driven = ROW + "morning(1, 5, 0); stop(0, 0, 30, 0);";
        DUE.refuses(none, driven, "NONE", "comes(3)", "comes(MAX)");
        DUE.refuses(none, driven, "BEYOND", "comes(-1)", "comes(MIN)");
        DUE.says(none, driven, "terms(39, 60, 0); all() = 4; comes(3) = NONE; comes(2) = 100");
        DUE.says(none, Run.corners(1), "school(0, 0)", Run.times(10, "stop(0, 0, 21, 0)"), "morning(9, 3, 0) = 21; comes(9) = 63",
            "comes(8) = 60; comes(10) = NONE");
    }

    private static void fair() {
        // Quarter 0: stops of both schools; quarter 2: one; quarters 1 and 3: none.
        String town = Run.line(3, 4) + "school(0, 0); school(1, 2); stop(0, 1, 10, 0); stop(0, 2, 20, 0); stop(1, 0, 7, 0);"
            + "stop(1, 2, 3, 2);";
        DUE.says("Of a QUARTER: what 0 PUPILS", town, "fair(0, 0) = 37; fair(1, 0) = 0; fair(2, 0) = 3; fair(3, 0) = 0",
            "pupils(0, 30); fair(0, 0) = 57; told(6) = 0");
        DUE.says("1 of all of them RIDE of their STOPS together", town, "fair(0, 1) = 320; fair(1, 1) = 0; fair(2, 1) = 3",
            "pupils(2, 8); fair(0, 1) = 330; terms(28, 60, 0); ride(0) = 5; ride(1) = 9; fair(0, 1) = 310");
        DUE.says("2 the greatest RIDE of a STOP of it (0 without any)", town, "fair(0, 2) = 10; fair(1, 2) = 0; fair(2, 2) = 1",
            "fair(3, 2) = 0; gone(1); fair(0, 2) = 10; gone(1); fair(0, 2) = 5; gone(0); fair(0, 2) = 0");
        DUE.says("3 of all of them the minutes by which BELLS ring ahead of WISHES (0 of one that does not)", town,
            "fair(0, 3) = 2220; fair(2, 3) = 180; fair(1, 3) = 0; bell(0, 2); fair(0, 3) = 1020; bell(0, 3); fair(0, 3) = 420",
            "bell(0, 4); fair(0, 3) = 420; bell(1, 6); fair(0, 3) = 0; fair(2, 3) = 0; wish(1, 6); fair(2, 3) = 0; bell(1, 0)",
            "fair(2, 3) = 360");
        String sentence = "BEYOND: no such QUARTER, or what. NONE: (1, 2) a SCHOOL has no PLAN.";
        DUE.refuses(sentence, town, "BEYOND", "fair(-1, 0)", "fair(4, 0)", "fair(0, -1)", "fair(0, 4)", "fair(MIN, 0)",
            "fair(MAX, 0)", "fair(0, MIN)", "fair(0, MAX)", "fair(4, 4)", "fair(-1, -1)");
        String none = town + "terms(19, 60, 0);";
        DUE.refuses(sentence, none, "NONE", "fair(0, 1)", "fair(0, 2)", "fair(2, 1)", "fair(2, 2)", "fair(1, 1)", "fair(3, 2)");
        DUE.refuses(sentence, none, "BEYOND", "fair(4, 1)", "fair(-1, 2)", "fair(0, 4)", "fair(0, -1)");
        DUE.says(sentence, none, "fair(0, 0) = 37; fair(0, 3) = 2220; fair(2, 0) = 3; fair(2, 3) = 180; fair(1, 0) = 0",
            "fair(3, 3) = 0; told(6) = 0");
    }

    public static void main(String[] args) {
        late();
        followers();
        snow();
        morning();
        comesCall();
        fair();
        DUE.end();
    }
}
