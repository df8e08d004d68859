/** Sentence by sentence: routes and plans of 'Terms', and promises 15 to 19. */
public final class PlansBoundsTest {
    private static final Due DUE = new Due("PlansBoundsTest");

    /** School 0 with two routes, school 1 with one, school 2 without stops. */
    private static final String TOWN = Run.line(3, 4) + "school(0, 0); school(3, 1); school(2, 2); stop(0, 1, 25, 0);"
        + "stop(1, 2, 9, 1); stop(0, 2, 25, 2); bell(1, 2); bell(2, 1);";

    /** School 0 has a plan, school 1 has none: its one stop has more pupils than there are seats. */
    private static final String NO_PLAN = Run.line(2, 4) + "school(0, 0); school(0, 1); stop(0, 1, 5, 0); stop(1, 0, 9, 1);"
        + "terms(8, 60, 0);";

    /** The stops of a route in their order, its length, and -1 behind the last one. */
    private static String route(int school, int i, int length, int... stops) {
        StringBuilder rows = new StringBuilder();
        String begin = "route(" + school + ", " + i + ", ";
        rows.append(begin).append("-1) = ").append(length).append("; ");
        for (int k = 0; k < stops.length; k++) {
            rows.append(begin).append(k).append(") = ").append(stops[k]).append("; ");
        }
        return rows.append(begin).append(stops.length).append(") = -1; ").toString();
    }

    private static void length() {
        String sentence = "Its LENGTH: a minute for each STOP, FAR of each STOP and the next one, FAR of the last one and "
            + "the SCHOOL, together.";
        DUE.says(sentence, Run.line(3, 4), "school(0, 0); stop(0, 0, 1, 0)", route(0, 0, 1, 0), "stop(0, 1, 1, 0)",
            route(0, 0, 6, 1, 0), "stop(0, 1, 1, 0)", route(0, 0, 7, 1, 2, 0), "stop(0, 2, 1, 0)", route(0, 0, 12, 3, 1, 2, 0));
        DUE.says(sentence, Run.corners(1), "school(0, 0)", Run.times(10, "stop(0, 0, 1, 0)"),
            route(0, 0, 10, 0, 1, 2, 3, 4, 5, 6, 7, 8, 9));
    }

    private static void stopsOfARoute() {
        String sentence = "A ROUTE of a SCHOOL: one or more of its STOPS in an order.";
        DUE.says(sentence, Run.line(2, 1), "school(0, 0); school(0, 1); stop(1, 0, 5, 0); stop(0, 1, 6, 0); stop(1, 1, 7, 0)",
            route(0, 0, 2, 1), route(1, 0, 3, 0, 2), "routes(0) = 1; routes(1) = 1");
        DUE.says(sentence, Run.corners(1), "school(0, 0); routes(0) = 0; stop(0, 0, 30, 0); routes(0) = 1", route(0, 0, 1, 0));
    }

    private static void seatsAndRide() {
        String seats = "It must have PUPILS of SEATS at most together";
        DUE.says(seats, Run.corners(1), "school(0, 0); stop(0, 0, 10, 0); stop(0, 0, 12, 0); stop(0, 0, 8, 0); terms(30, 60, 0)",
            "routes(0) = 1; terms(29, 60, 0); routes(0) = 2; terms(12, 60, 0); routes(0) = 3; terms(11, 60, 0); routes(0) = NONE");
        String ride = "and a LENGTH of RIDE at most";
        DUE.says(ride, Run.line(3, 10), "school(0, 1); stop(0, 0, 1, 0); stop(0, 2, 1, 0); terms(40, 32, 0); routes(0) = 1",
            "terms(40, 31, 0); routes(0) = 2; terms(40, 11, 0); routes(0) = 2; terms(40, 10, 0); routes(0) = NONE");
        String half = "(of a SPECIAL SCHOOL: of half of RIDE, cut, at most)";
        DUE.says(half, Run.line(2, 10), "school(3, 0); stop(0, 1, 1, 0); terms(40, 22, 0); routes(0) = 1; terms(40, 23, 0)",
            "routes(0) = 1; terms(40, 21, 0); routes(0) = NONE; stop(0, 1, 1, 0); terms(40, 24, 0); routes(0) = 1",
            "terms(40, 23, 0); routes(0) = 2");
        DUE.says(half, Run.line(2, 10), "school(0, 0); school(1, 0); school(2, 0); stop(0, 1, 1, 0); stop(1, 1, 1, 0)",
            "stop(2, 1, 1, 0); terms(40, 11, 0)", Run.times(3, "routes(#) = 1"), "terms(40, 10, 0)",
            Run.times(3, "routes(#) = NONE"));
        DUE.says(half, Run.corners(1), "school(3, 0); stop(0, 0, 1, 0); terms(40, 2, 0); routes(0) = 1; terms(40, 1, 0)",
            "routes(0) = NONE; gone(0) = 0; routes(0) = 0");
        DUE.says("where there is no FAR it is none", Run.corners(3), "street(0, 1, 1); school(0, 0); stop(0, 1, 1, 0)",
            "routes(0) = 1; stop(0, 2, 1, 0); routes(0) = NONE; street(2, 1, 1); routes(0) = 1; shut(0, true); routes(0) = NONE",
            "gone(0); gone(0); stop(0, 0, 1, 0); routes(0) = 1");
    }

    private static void fewest() {
        String sentence = "the fewest that can be; of such plans one whose LENGTHS together are least";
        // One route of 2 + 20 + 10 minutes though two of 11 each are shorter together.
        DUE.says(sentence, Run.line(3, 10), "school(0, 1); stop(0, 0, 1, 0); stop(0, 2, 1, 0); routes(0) = 1",
            route(0, 0, 32, 0, 1));
        // 4 and 6, 5 and 5: filling seats in the order of stops would take three.
        DUE.says(sentence, Run.corners(1), "school(0, 0); stop(0, 0, 4, 0); stop(0, 0, 5, 0); stop(0, 0, 5, 0); stop(0, 0, 6, 0)",
            "terms(10, 60, 0); routes(0) = 2", route(0, 0, 2, 0, 3), route(0, 1, 2, 1, 2));
        // On either side of the school two stops: a route a side.
        DUE.says(sentence, Run.line(5, 6), "school(0, 2); stop(0, 0, 10, 0); stop(0, 4, 10, 0); stop(0, 1, 10, 0)",
            "stop(0, 3, 10, 0); terms(20, 60, 0); routes(0) = 2", route(0, 0, 14, 0, 2), route(0, 1, 14, 1, 3));
        // Ten stops, ten routes; and ten stops that fill five buses two by two.
        DUE.says(sentence, Run.corners(1), "school(0, 0)", Run.times(10, "stop(0, 0, 21, 0)"), "routes(0) = 10", route(0, 9, 1, 9),
            "route(0, 10, 0) = NONE; terms(42, 60, 0); routes(0) = 5", route(0, 0, 2, 0, 1), route(0, 4, 2, 8, 9));
    }

    private static void orderOfRoutes() {
        // Route 0 is driven from stop 3 to stop 0, and is the first one all the same.
        DUE.says("The ROUTES are in order by the least STOP that each has", Run.corners(5), "street(0, 1, 5); street(1, 2, 5)",
            "street(0, 3, 5); street(3, 4, 5); school(0, 0); stop(0, 1, 20, 0); stop(0, 4, 20, 0); stop(0, 3, 20, 0)",
            "stop(0, 2, 20, 0); routes(0) = 2", route(0, 0, 12, 3, 0), route(0, 1, 12, 1, 2));
        String sentence = "of several plans it is the one whose first ROUTE has the least set of STOPS (as bits), then the "
            + "second one's, and so on";
        // {0} alone is the least of all sets with stop 0.
        DUE.says(sentence, Run.corners(1), "school(0, 0)", Run.times(4, "stop(0, 0, 10, 0)"), "terms(30, 60, 0); routes(0) = 2",
            route(0, 0, 1, 0), route(0, 1, 3, 1, 2, 3));
        // {0, 1, 2} is 7 and {0, 3} is 9.
        DUE.says(sentence, Run.corners(1), "school(0, 0); stop(0, 0, 20, 0); stop(0, 0, 10, 0); stop(0, 0, 10, 0)",
            "stop(0, 0, 20, 0); stop(0, 0, 20, 0); routes(0) = 2", route(0, 0, 3, 0, 1, 2), route(0, 1, 2, 3, 4));
        // {0, 2} is 5 and {0, 1, 3} is 11, though 1 is less than 2.
        DUE.says(sentence, Run.corners(1), "school(0, 0); stop(0, 0, 20, 0); stop(0, 0, 10, 0); stop(0, 0, 20, 0)",
            "stop(0, 0, 10, 0); stop(0, 0, 20, 0); routes(0) = 2", route(0, 0, 2, 0, 2), route(0, 1, 3, 1, 3, 4));
        // The first route is {0} in any plan; of the others {1} is the least second one.
        DUE.says(sentence, Run.corners(1), "school(0, 0); stop(0, 0, 30, 0)", Run.times(4, "stop(0, 0, 10, 0)"), "terms(30, 60, 0)",
            "routes(0) = 3", route(0, 0, 1, 0), route(0, 1, 1, 1), route(0, 2, 3, 2, 3, 4));
        // And so on: {0}, {1} in any plan, then {2}.
        DUE.says(sentence, Run.corners(1), "school(0, 0); stop(0, 0, 30, 0); stop(0, 0, 30, 0)", Run.times(4, "stop(0, 0, 10, 0)"),
            "terms(30, 60, 0); routes(0) = 4", route(0, 1, 1, 1), route(0, 2, 1, 2), route(0, 3, 3, 3, 4, 5));
        // The least lengths count ahead of the least set: {0, 1} would be 3, but {0, 2} and {1, 3} are shorter.
        DUE.says(sentence, Run.line(3, 9), "school(0, 1); stop(0, 0, 20, 0); stop(0, 2, 20, 0); stop(0, 0, 20, 0)",
            "stop(0, 2, 20, 0); routes(0) = 2", route(0, 0, 11, 0, 2), route(0, 1, 11, 1, 3));
        // Bits are those of the stops of all schools: another school's stops lie between.
        DUE.says(sentence, Run.corners(1), "school(0, 0); school(0, 0)", Run.times(4, "stop(1, 0, 10, 0); stop(0, 0, 10, 0)"),
            "terms(30, 60, 0); routes(0) = 2; routes(1) = 2", route(0, 0, 1, 1), route(0, 1, 3, 3, 5, 7), route(1, 0, 1, 0),
            route(1, 1, 3, 2, 4, 6));
    }

    private static void orderOfStops() {
        String sentence = "of the orders of a set of STOPS it is that of the least LENGTH, of several the one with the "
            + "lesser STOP where two first differ";
        DUE.says(sentence, Run.line(4, 5), "school(0, 0); stop(0, 1, 1, 0); stop(0, 3, 1, 0); stop(0, 2, 1, 0)",
            route(0, 0, 18, 1, 2, 0));
        // Either side first: 1 + 10 + 1 + 5.
        DUE.says(sentence, Run.line(3, 5), "school(0, 1); stop(0, 2, 1, 0); stop(0, 0, 1, 0)", route(0, 0, 17, 0, 1));
        DUE.says(sentence, Run.line(3, 5), "school(0, 1); stop(0, 0, 1, 0); stop(0, 2, 1, 0)", route(0, 0, 17, 0, 1));
        // The farthest, stop 1, first; the other two either way: they differ behind it.
        DUE.says(sentence, Run.corners(4), "street(0, 1, 5); street(0, 2, 5); street(0, 3, 9); school(0, 0); stop(0, 1, 1, 0)",
            "stop(0, 3, 1, 0); stop(0, 2, 1, 0)", route(0, 0, 3 + 14 + 10 + 5, 1, 0, 2));
        // From the one side over 0 and 2, or from the other over 1: both take 18, and 0 is the lesser stop.
        DUE.says(sentence, Run.line(3, 5), "school(0, 1); stop(0, 2, 1, 0); stop(0, 0, 1, 0); stop(0, 2, 1, 0)",
            route(0, 0, 18, 0, 2, 1));
        // Stop 0 lies as far from stop 1 as the rest of stop 1's route takes, and is no part of it.
        DUE.says(sentence, Run.corners(3), "street(0, 1, 5); street(1, 2, 6); school(0, 0); stop(0, 2, 30, 0); stop(0, 1, 20, 0)",
            "stop(0, 0, 20, 0); routes(0) = 2", route(0, 0, 12, 0), route(0, 1, 7, 1, 2));
    }

    /** Plans are of what there is when they are asked for: each row changes something that they depend on. */
    private static void madeAnew() {
        DUE.says("THE PLAN of a SCHOOL parts its STOPS into ROUTES", Run.line(2, 10), "school(0, 0); stop(0, 1, 10, 0)",
            route(0, 0, 11, 0), "street(0, 1, 4)", route(0, 0, 5, 0), "shut(1, true)", route(0, 0, 11, 0), "stop(0, 0, 10, 0)",
            route(0, 0, 12, 0, 1), "terms(10, 60, 0); routes(0) = 2; gone(0) = 1; routes(0) = 1", route(0, 0, 1, 0),
            "pupils(0, 11); routes(0) = NONE; sheet(0, 8, 1); write(0, 0, 10); read(0, 0) = 1; routes(0) = 1; all() = 1",
            "school(0, 1); all() = 1; stop(1, 1, 1, 0); all() = 2; routes(1) = 1");
    }

    private static void planOrNone() {
        DUE.says("A SCHOOL without STOPS has a PLAN without ROUTES; one can have none.", Run.corners(2), "school(0, 0)",
            "school(3, 1); routes(0) = 0; routes(1) = 0; all() = 0; route(0, 0, 0) = NONE; route(0, 0, -1) = NONE; buses() = 0",
            "trades() = 1; stop(1, 1, 1, 0); all() = 1; stop(0, 1, 1, 0); routes(0) = NONE; routes(1) = 1; all() = NONE");
        DUE.says("If all SCHOOLS have PLANS, ROUTES are numbered from 0 on, those of SCHOOL 0 first, and so on.", TOWN, "all() = 3",
            "start(0) = 55; start(1) = 51; start(2) = 95; start(3) = NONE");
        DUE.says("If all SCHOOLS have PLANS, ROUTES are numbered from 0 on, those of SCHOOL 0 first, and so on.", Run.corners(1),
            Run.times(4, "school(0, 0); bell(#, #)"), "stop(3, 0, 1, 0); stop(2, 0, 1, 0); stop(1, 0, 1, 0); stop(0, 0, 1, 0)",
            "start(0) = 59; start(1) = 79; start(2) = 99; start(3) = 119; start(4) = NONE; gone(2) = 3; start(0) = 59",
            "start(1) = 99; start(2) = 119; start(3) = NONE");
    }

    private static void routes() {
        String sentence = "How many ROUTES THE PLAN of a SCHOOL has. BEYOND. NONE: it has no PLAN.";
        DUE.says(sentence, TOWN, "routes(0) = 2; routes(1) = 1; routes(2) = 0; told(6) = 0");
        DUE.refuses(sentence, TOWN, "BEYOND", "routes(-1)", "routes(3)", "routes(MIN)", "routes(MAX)");
        DUE.says(sentence, NO_PLAN, "routes(0) = 1; routes(1) = NONE; routes(2) = BEYOND");
    }

    private static void route() {
        String stops = "STOP k (from 0) of ROUTE i (from 0) of THE PLAN of a SCHOOL; -1 behind its last one (no finding)";
        DUE.says(stops + "; k -1: its LENGTH.", TOWN, route(0, 0, 5, 0), route(0, 1, 9, 2), route(1, 0, 5, 1),
            "route(0, 0, 9) = -1; route(0, 1, 10) = -1; route(1, 0, MAX) = -1; told(6) = 0");
        String sentence = "BEYOND: no such SCHOOL, i is below 0, or k below -1. NONE: it has no PLAN, or no such ROUTE.";
        DUE.refuses(sentence, TOWN, "BEYOND", "route(-1, 0, 0)", "route(3, 0, 0)", "route(MIN, 0, 0)", "route(MAX, 0, 0)",
            "route(0, -1, 0)", "route(0, MIN, 0)", "route(0, 0, -2)", "route(0, 0, MIN)", "route(0, 2, -2)", "route(0, -1, -1)");
        DUE.refuses(sentence, TOWN, "NONE", "route(0, 2, 0)", "route(0, 2, -1)", "route(0, 2, MAX)", "route(0, MAX, 0)",
            "route(2, 0, 0)", "route(2, 0, -1)");
        DUE.refuses(sentence, NO_PLAN, "NONE", "route(1, 0, 0)", "route(1, 0, -1)", "route(1, 1, 0)", "route(1, MAX, MAX)");
        DUE.refuses(sentence, NO_PLAN, "BEYOND", "route(2, 0, 0)", "route(1, -1, 0)", "route(1, 0, -2)");
        DUE.says(sentence, NO_PLAN, "route(0, 0, 0) = 0; route(0, 0, -1) = 5; route(0, 1, 0) = NONE");
    }

    private static void ride() {
        DUE.says("RIDE of a STOP: the minutes from when THE PLAN's ROUTE comes to it till it comes to the SCHOOL.", Run.line(4, 5),
            "school(0, 0); stop(0, 1, 1, 0); stop(0, 3, 1, 0); stop(0, 2, 1, 0); stop(0, 0, 1, 0); ride(1) = 19; ride(2) = 13",
            "ride(0) = 7; ride(3) = 1; start(0) = 41");
        String sentence = "RIDE of a STOP. BEYOND: no such STOP. NONE: its SCHOOL has no PLAN.";
        DUE.says(sentence, TOWN, "ride(0) = 5; ride(1) = 5; ride(2) = 9; told(6) = 0");
        DUE.refuses(sentence, TOWN, "BEYOND", "ride(-1)", "ride(3)", "ride(MIN)", "ride(MAX)");
        DUE.says(sentence, NO_PLAN, "ride(0) = 5; ride(1) = NONE; ride(2) = BEYOND");
        DUE.says(sentence, Run.corners(1), "school(0, 0)", Run.times(10, "stop(0, 0, 1, 0)"), "ride(9) = 1; ride(0) = 10",
            "ride(10) = BEYOND");
    }

    private static void all() {
        String sentence = "How many ROUTES all SCHOOLS have. NONE: one has no PLAN.";
        DUE.says(sentence, TOWN, "all() = 3; told(6) = 0");
        DUE.says(sentence, NO_PLAN, "all() = NONE; pupils(1, 8); all() = 2; pupils(0, 9); all() = NONE; pupils(0, 8); all() = 2");
        DUE.says(sentence, Run.corners(1), Run.times(4, "school(0, 0)"), "all() = 0",
            Run.times(4, "stop(#, 0, 21, 0); stop(#, 0, 21, 0)"), "all() = 8; stop(3, 0, 21, 0); stop(0, 0, 21, 0); all() = 10");
    }

    private static void start() {
        DUE.says("A ROUTE comes to its SCHOOL when the BELL rings; it STARTS (comes to its first STOP) its LENGTH earlier.",
            Run.line(2, 10), "school(0, 0); stop(0, 1, 1, 0); start(0) = 49; bell(0, 6); start(0) = 169; stop(0, 0, 1, 0)",
            "start(0) = 168; morning(0, 0, 0); comes(0) = 180");
        String sentence = "START of a ROUTE (numbered through all SCHOOLS). BEYOND: it is below 0. NONE: a SCHOOL has no "
            + "PLAN, or there is no such ROUTE.";
        DUE.refuses(sentence, TOWN, "BEYOND", "start(-1)", "start(MIN)");
        DUE.refuses(sentence, TOWN, "NONE", "start(3)", "start(MAX)");
        DUE.refuses(sentence, NO_PLAN, "NONE", "start(0)", "start(1)", "start(MAX)");
        DUE.refuses(sentence, NO_PLAN, "BEYOND", "start(-1)", "start(MIN)");
    }

    public static void main(String[] args) {
        stopsOfARoute();
        length();
        seatsAndRide();
        fewest();
        orderOfRoutes();
        orderOfStops();
        madeAnew();
        planOrNone();
        routes();
        route();
        ride();
        all();
        start();
        DUE.end();
    }
}
