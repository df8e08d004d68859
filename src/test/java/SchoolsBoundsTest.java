/** Sentence by sentence: the schools, stops and terms of 'Terms', and promises 6 to 14. */
public final class SchoolsBoundsTest {
    private static final Due DUE = new Due("SchoolsBoundsTest");

    /** Three schools of two corners, each with a stop or two, none of them at its first bell or wish. */
    private static final String TOWN = Run.line(2, 4) + "school(0, 0); school(3, 1); school(2, 0); stop(0, 1, 12, 0); stop(1, 0, 9, 1);"
        + "stop(2, 1, 30, 3); stop(0, 0, 1, 2); bell(0, 1); bell(1, 4); bell(2, 6); wish(0, 2); wish(1, 5); wish(2, 0);";

    private static void school() {
        DUE.says("SCHOOLS 0, 1, .. (at most 4) are of a kind", Run.corners(1),
            Run.times(4, "told(2) = #; school(#, 0) = #; of(#, 0) = #"), "told(2) = 4; school(0, 0) = FULL; school(3, 0) = FULL",
            "told(2) = 4");
        DUE.says("SCHOOLS 0, 1, .. (at most 4) are of a kind", Run.corners(1), Run.times(4, "school(3, 0) = #"),
            "school(3, 0) = FULL; of(3, 0) = 3; of(4, 0) = BEYOND");
        DUE.says("Each is at a CORNER", Run.corners(8), "school(0, 7) = 0; school(0, 0) = 1; school(2, 7) = 2; of(0, 1) = 7",
            "of(1, 1) = 0; of(2, 1) = 7");
        DUE.says("has a BELL and a WISH (0 to 6 each; 0 and 3 at first)", Run.corners(1),
            Run.times(4, "school(#, 0); of(#, 2) = 0; of(#, 3) = 3"));
        DUE.says("has a BELL and a WISH (0 to 6 each; 0 and 3 at first)", Run.corners(1), "school(0, 0); bell(0, 6) = 0",
            "bell(0, 7) = BEYOND; bell(0, 0) = 6; bell(0, -1) = BEYOND; wish(0, 6) = 3; wish(0, 7) = BEYOND; wish(0, 0) = 6",
            "wish(0, -1) = BEYOND; of(0, 2) = 0; of(0, 3) = 0");
        DUE.says("A BELL b rings at minute 60 and 20 b.", Run.corners(1), "school(0, 0); stop(0, 0, 1, 0); start(0) = 59",
            "bell(0, 1); start(0) = 79; bell(0, 2); start(0) = 99; bell(0, 3); start(0) = 119; bell(0, 4); start(0) = 139",
            "bell(0, 5); start(0) = 159; bell(0, 6); start(0) = 179; morning(0, 0, 0) = 0; comes(0) = 180");
        String sentence = "A new SCHOOL: its number. BEYOND: no such kind, or CORNER. FULL.";
        DUE.says(sentence, Run.corners(2), "school(3, 1) = 0; school(0, 0) = 1; told(2) = 2; told(6) = 0");
        DUE.refuses(sentence, "", "BEYOND", "school(0, 0)", "school(0, -1)");
        DUE.refuses(sentence, TOWN, "BEYOND", "school(-1, 0)", "school(4, 0)", "school(0, -1)", "school(0, 2)", "school(MIN, 0)",
            "school(MAX, 0)", "school(0, MIN)", "school(0, MAX)", "school(4, 2)");
        DUE.refuses(sentence, Run.line(8, 1), "BEYOND", "school(0, 8)");
        String full = Run.corners(2) + Run.times(4, "school(#, 0)");
        DUE.refuses(sentence, full, "FULL", "school(0, 0)", "school(3, 1)");
        DUE.refuses(sentence, full, "BEYOND", "school(4, 0)", "school(-1, 0)", "school(0, 2)", "school(0, -1)");
    }

    private static void as() {
        String kinds = Run.corners(1) + "school(0, 0); school(1, 0); school(2, 0); school(3, 0);";
        DUE.says("0 SCHOOL, 1 LOWER under SCHOOL, 2 UPPER under SCHOOL, 3 SPECIAL under LOWER", kinds, Run.times(4, "as(#, 0) = #"),
            "as(0, 1) = KIND; as(0, 2) = KIND; as(0, 3) = KIND; as(1, 1) = 1; as(1, 2) = KIND; as(1, 3) = KIND; as(2, 1) = KIND",
            "as(2, 2) = 2; as(2, 3) = KIND; as(3, 1) = 3; as(3, 2) = KIND; as(3, 3) = 3");
        String sentence = "A SCHOOL as one of a kind: its number. BEYOND: no such SCHOOL, or kind. KIND: it is not of that "
            + "kind, nor of one under it.";
        DUE.says(sentence, Run.corners(1), "school(3, 0); school(3, 0); as(1, 3) = 1; as(1, 1) = 1; as(1, 0) = 1; as(0, 3) = 0",
            "told(6) = 0");
        DUE.refuses(sentence, TOWN, "BEYOND", "as(3, 0)", "as(-1, 0)", "as(0, 4)", "as(0, -1)", "as(MIN, 0)", "as(MAX, 0)",
            "as(0, MIN)", "as(0, MAX)", "as(3, 1)", "as(3, 4)", "as(-1, -1)");
        DUE.refuses(sentence, TOWN, "KIND", "as(0, 1)", "as(0, 2)", "as(0, 3)", "as(1, 2)", "as(2, 1)", "as(2, 3)");
        DUE.refuses(sentence, kinds, "BEYOND", "as(4, 0)", "as(3, 4)");
    }

    private static void of() {
        String sentence = "Of a SCHOOL: 0 kind, 1 CORNER, 2 BELL, 3 WISH, 4 how many STOPS, 5 PUPILS, 6 minutes that a ROUTE "
            + "may take.";
        DUE.says(sentence, TOWN, "of(0, 0) = 0; of(0, 1) = 0; of(0, 2) = 1; of(0, 3) = 2; of(0, 4) = 2; of(0, 5) = 13",
            "of(0, 6) = 60; of(1, 0) = 3; of(1, 1) = 1; of(1, 2) = 4; of(1, 3) = 5; of(1, 4) = 1; of(1, 5) = 9; of(1, 6) = 30",
            "of(2, 0) = 2; of(2, 1) = 0; of(2, 2) = 6; of(2, 3) = 0; of(2, 4) = 1; of(2, 5) = 30; of(2, 6) = 60; told(6) = 0");
        DUE.says(sentence, Run.corners(1), "school(1, 0); of(0, 4) = 0; of(0, 5) = 0", Run.times(10, "stop(0, 0, 30, 0)"),
            "of(0, 4) = 10; of(0, 5) = 300");
        DUE.says(sentence, Run.corners(1), Run.times(4, "school(#, 0)"), "terms(40, 90, 0); of(0, 6) = 90; of(1, 6) = 90",
            "of(2, 6) = 90; of(3, 6) = 45; terms(40, 89, 0); of(0, 6) = 89; of(3, 6) = 44; terms(40, 2, 0); of(3, 6) = 1",
            "terms(40, 1, 0); of(2, 6) = 1; of(3, 6) = 0");
        DUE.refuses("BEYOND: no such SCHOOL, or another what.", TOWN, "BEYOND", "of(-1, 0)", "of(3, 0)", "of(0, -1)", "of(0, 7)",
            "of(MIN, 0)", "of(MAX, 0)", "of(0, MIN)", "of(0, MAX)", "of(3, 7)");
    }

    private static void bellAndWish() {
        String bell = "A SCHOOL's BELL (ALLOWED or not) becomes b: what it was. BEYOND.";
        DUE.says(bell, TOWN, "bell(1, 0) = 4; bell(1, 6) = 0; bell(1, 6) = 6; of(1, 2) = 6; of(0, 2) = 1; of(2, 2) = 6",
            "of(1, 3) = 5; told(6) = 0");
        DUE.says(bell, TOWN, Run.tape("s3-3;"), "text() = 1; allowed(0, 0) = 0; bell(0, 0) = 1; of(0, 2) = 0; bell(0, 3) = 0",
            "bell(0, 6) = 3; of(0, 2) = 6");
        DUE.refuses(bell, TOWN, "BEYOND", "bell(-1, 0)", "bell(3, 0)", "bell(0, -1)", "bell(0, 7)", "bell(MIN, 0)", "bell(MAX, 0)",
            "bell(0, MIN)", "bell(0, MAX)");
        String wish = "A SCHOOL's WISH becomes b: what it was. BEYOND.";
        DUE.says(wish, TOWN, "wish(1, 0) = 5; wish(1, 6) = 0; wish(1, 6) = 6; of(1, 3) = 6; of(0, 3) = 2; of(2, 3) = 0",
            "of(1, 2) = 4; told(6) = 0");
        DUE.says(wish, TOWN, Run.tape("s3-3;"), "text() = 1; wish(0, 0) = 2; wish(0, 6) = 0; of(0, 3) = 6");
        DUE.refuses(wish, TOWN, "BEYOND", "wish(-1, 0)", "wish(3, 0)", "wish(0, -1)", "wish(0, 7)", "wish(MIN, 0)", "wish(MAX, 0)",
            "wish(0, MIN)", "wish(0, MAX)");
        String four = Run.corners(1) + Run.times(4, "school(#, 0)");
        DUE.says(bell, four, "bell(3, 6) = 0; bell(4, 6) = BEYOND; of(3, 2) = 6");
        DUE.says(wish, four, "wish(3, 6) = 3; wish(4, 6) = BEYOND; of(3, 3) = 6");
    }

    private static void stop() {
        String two = Run.corners(2) + "school(0, 0); school(0, 1);";
        DUE.says("(at most 10, of all SCHOOLS together)", two, Run.times(5, "told(3) = #; stop(0, 0, 1, 0) = #"),
            "stop(1, 0, 1, 0) = 5; stop(1, 0, 1, 0) = 6; stop(1, 0, 1, 0) = 7; stop(1, 0, 1, 0) = 8; stop(1, 0, 1, 0) = 9",
            "told(3) = 10; stop(0, 0, 1, 0) = FULL; stop(1, 0, 1, 0) = FULL; of(0, 4) = 5; of(1, 4) = 5; school(0, 0) = 2",
            "stop(2, 0, 1, 0) = FULL; gone(9) = 9; stop(2, 0, 1, 0) = 9; stop(2, 0, 1, 0) = FULL");
        DUE.says("with PUPILS (1 to 30) of a QUARTER (0 to 3)", two, "stop(0, 0, 0, 0) = BEYOND; stop(0, 0, 1, 0) = 0",
            "stop(0, 0, 30, 3) = 1; stop(0, 0, 31, 3) = BEYOND; stop(0, 0, 1, -1) = BEYOND; stop(0, 0, 1, 4) = BEYOND",
            "fair(0, 0) = 1; fair(1, 0) = 0; fair(2, 0) = 0; fair(3, 0) = 30");
        DUE.says("are each of a SCHOOL, at a CORNER", Run.line(8, 1), Run.times(4, "school(0, 0)"),
            Run.times(4, "stop(#, 7, 1, 0)"), "stop(3, 0, 1, 0) = 4; ride(0) = 8; ride(2) = 8; ride(3) = 9; ride(4) = 1",
            "of(3, 4) = 2; of(2, 4) = 1; stop(3, 8, 1, 0) = BEYOND; stop(4, 7, 1, 0) = BEYOND");
        String sentence = "A new STOP: its number. BEYOND: no such SCHOOL, CORNER, or a number is not as told. FULL.";
        DUE.says(sentence, TOWN, "stop(2, 1, 30, 3) = 4; stop(0, 0, 1, 0) = 5; told(3) = 6; of(2, 4) = 2; of(2, 5) = 60",
            "told(6) = 0");
        DUE.refuses(sentence, Run.corners(1), "BEYOND", "stop(0, 0, 1, 0)");
        DUE.refuses(sentence, TOWN, "BEYOND", "stop(-1, 0, 1, 0)", "stop(3, 0, 1, 0)", "stop(0, -1, 1, 0)", "stop(0, 2, 1, 0)",
            "stop(0, 0, 0, 0)", "stop(0, 0, 31, 0)", "stop(0, 0, -1, 0)", "stop(0, 0, 1, -1)", "stop(0, 0, 1, 4)",
            "stop(MIN, 0, 1, 0)", "stop(MAX, 0, 1, 0)", "stop(0, MIN, 1, 0)", "stop(0, MAX, 1, 0)", "stop(0, 0, MIN, 0)",
            "stop(0, 0, MAX, 0)", "stop(0, 0, 1, MIN)", "stop(0, 0, 1, MAX)");
        String full = two + Run.times(10, "stop(0, 1, 3, 1)");
        DUE.refuses(sentence, full, "FULL", "stop(0, 0, 1, 0)", "stop(1, 1, 30, 3)");
        DUE.refuses(sentence, full, "BEYOND", "stop(2, 0, 1, 0)", "stop(-1, 0, 1, 0)", "stop(0, 2, 1, 0)", "stop(0, -1, 1, 0)",
            "stop(0, 0, 0, 0)", "stop(0, 0, 31, 0)", "stop(0, 0, 1, -1)", "stop(0, 0, 1, 4)");
    }

    private static void pupils() {
        String sentence = "PUPILS of a STOP become v: what they were. BEYOND.";
        DUE.says(sentence, TOWN, "pupils(2, 1) = 30; pupils(2, 30) = 1; pupils(2, 29) = 30; of(2, 5) = 29; of(0, 5) = 13",
            "of(1, 5) = 9; pupils(0, 1) = 12; pupils(3, 30) = 1; of(0, 5) = 31; told(3) = 4; told(6) = 0");
        DUE.refuses(sentence, TOWN, "BEYOND", "pupils(-1, 1)", "pupils(4, 1)", "pupils(0, 0)", "pupils(0, 31)", "pupils(0, -1)",
            "pupils(MIN, 1)", "pupils(MAX, 1)", "pupils(0, MIN)", "pupils(0, MAX)", "pupils(4, 31)");
        DUE.says(sentence, Run.corners(1), "school(0, 0)", Run.times(10, "stop(0, 0, 5, 0)"), "pupils(9, 6) = 5",
            "pupils(10, 6) = BEYOND; of(0, 5) = 51");
    }

    private static void gone() {
        String sentence = "A STOP goes; those behind it have numbers one less: how many there are. BEYOND.";
        DUE.says(sentence, TOWN, "gone(1) = 3; pupils(0, 2) = 12; pupils(1, 3) = 30; pupils(2, 4) = 1; pupils(3, 1) = BEYOND",
            "of(0, 4) = 2; of(0, 5) = 6; of(1, 4) = 0; of(1, 5) = 0; of(2, 5) = 3; fair(1, 0) = 0; fair(2, 0) = 4; fair(3, 0) = 3");
        DUE.says(sentence, TOWN, "gone(3) = 3; pupils(2, 8) = 30; gone(0) = 2; pupils(0, 7) = 9; pupils(1, 6) = 8; gone(0) = 1",
            "pupils(0, 5) = 6; gone(1) = BEYOND; gone(0) = 0; told(3) = 0; gone(0) = BEYOND; all() = 0; stop(1, 1, 3, 3) = 0",
            "of(1, 5) = 3");
        DUE.says(sentence, TOWN, "gone(0) = 3; route(2, 0, 0) = 1; route(1, 0, 0) = 0; route(0, 0, 0) = 2; ride(0) = 5",
            "ride(1) = 5; ride(2) = 1; ride(3) = BEYOND");
        DUE.says(sentence, Run.corners(1), "school(0, 0)", Run.times(10, "stop(0, 0, 5, 0)"), "gone(10) = BEYOND; gone(9) = 9",
            "gone(9) = BEYOND; stop(0, 0, 7, 1) = 9; pupils(9, 1) = 7");
        // A stop that comes behind one that went is a new one, and changes no other.
        DUE.says(sentence, TOWN, "gone(0) = 3; stop(1, 1, 25, 3) = 3; pupils(0, 1) = 9; pupils(1, 1) = 30; pupils(2, 2) = 1",
            "pupils(3, 3) = 25; of(0, 4) = 1; of(1, 4) = 2; of(2, 4) = 1");
        DUE.refuses(sentence, TOWN, "BEYOND", "gone(-1)", "gone(4)", "gone(MIN)", "gone(MAX)");
    }

    private static void terms() {
        String pairs = Run.corners(1) + "school(0, 0); stop(0, 0, 30, 0); stop(0, 0, 10, 0);";
        DUE.says("SEATS are 1 to 60 (40 at first)", pairs, "routes(0) = 1; pupils(1, 11); routes(0) = 2; pupils(1, 30)",
            "terms(59, 60, 0) = 1; routes(0) = 2; terms(60, 60, 0) = 1; routes(0) = 1; terms(61, 60, 0) = BEYOND",
            "terms(0, 60, 0) = BEYOND; routes(0) = 1; pupils(0, 1); pupils(1, 1); terms(1, 60, 0) = 1; routes(0) = 2; pupils(0, 2)",
            "routes(0) = NONE");
        DUE.says("RIDE is 1 to 90 (60 at first)", Run.corners(5), "street(0, 1, 20); street(1, 2, 20); street(2, 3, 19)",
            "street(3, 4, 20); school(0, 0); stop(0, 3, 1, 0); routes(0) = 1; route(0, 0, -1) = 60; of(0, 6) = 60",
            "terms(40, 59, 0) = 1; routes(0) = NONE; terms(40, 90, 0) = 1; stop(0, 4, 1, 0); routes(0) = 1; route(0, 0, -1) = 81",
            "terms(40, 91, 0) = BEYOND; terms(40, 0, 0) = BEYOND; of(0, 6) = 90; terms(40, 80, 0) = 1; routes(0) = 2",
            "terms(40, 1, 0) = 1; of(0, 6) = 1; routes(0) = NONE; gone(1); gone(0); stop(0, 0, 1, 0); routes(0) = 1");
        DUE.says("SLACK 0 to 30 (0 at first)", Run.line(2, 19), "school(0, 0); school(0, 1); stop(0, 0, 1, 0); stop(1, 1, 1, 0)",
            "bell(1, 1); follows(0, 1) = 1; terms(40, 60, 1) = 1; follows(0, 1) = 0; bell(1, 2); terms(40, 60, 20) = 1",
            "follows(0, 1) = 1; terms(40, 60, 21) = 1; follows(0, 1) = 0; bell(1, 3); terms(40, 60, 30) = 1; follows(0, 1) = 1",
            "terms(40, 60, 31) = BEYOND; terms(40, 60, -1) = BEYOND; bell(1, 2); follows(0, 1) = 0; terms(40, 60, 0) = 1",
            "follows(0, 1) = 1");
        DUE.says("SLACK 0 to 30 (0 at first)", Run.line(2, 9), "school(0, 0); school(0, 1); stop(0, 0, 1, 0); stop(1, 1, 1, 0)",
            "bell(1, 2); terms(40, 60, 30) = 1; follows(0, 1) = 1; stop(1, 1, 1, 0); follows(0, 1) = 0; terms(40, 60, 29) = 1",
            "follows(0, 1) = 1");
        String sentence = "SEATS, RIDE, SLACK: 1. BEYOND.";
        DUE.says(sentence, TOWN, "terms(1, 1, 0) = 1; terms(60, 90, 30) = 1; of(0, 6) = 90; of(1, 6) = 45; terms(60, 90, 30) = 1",
            "told(6) = 0");
        DUE.refuses(sentence, TOWN + "terms(30, 31, 5);", "BEYOND", "terms(0, 60, 0)", "terms(61, 60, 0)", "terms(40, 0, 0)",
            "terms(40, 91, 0)", "terms(40, 60, -1)", "terms(40, 60, 31)", "terms(MIN, 60, 0)", "terms(MAX, 60, 0)",
            "terms(40, MIN, 0)", "terms(40, MAX, 0)", "terms(40, 60, MIN)", "terms(40, 60, MAX)", "terms(0, 0, -1)",
            "terms(-1, 60, 0)", "terms(40, -1, 0)");
    }

    public static void main(String[] args) {
        school();
        as();
        of();
        bellAndWish();
        stop();
        pupils();
        gone();
        terms();
        DUE.end();
    }
}
