/** Sentence by sentence: who can follow whom and the chains of 'Terms', and promises 20 to 23. */
public final class ChainsBoundsTest {
    private static final Due DUE = new Due("ChainsBoundsTest");

    /** Two schools at both ends of a street, each with a stop beside it: route 1 needs ten minutes behind bell 0. */
    private static final String TWO = Run.line(2, 9) + "school(0, 0); school(3, 1); stop(0, 0, 5, 0); stop(1, 1, 6, 0);";

    /** Four schools at one corner, one stop and one route each; a bell more is time enough to follow. */
    private static final String FOUR = Run.corners(1) + Run.times(4, "school(#, 0); stop(#, 0, 5, #)");

    private static final String NO_PLAN = TWO + "bell(1, 3); terms(5, 60, 0);";

    private static String bells(int a, int b, int c, int d) {
        return "bell(0, " + a + "); bell(1, " + b + "); bell(2, " + c + "); bell(3, " + d + "); ";
    }

    private static String chain(int bus, int... routes) {
        StringBuilder rows = new StringBuilder();
        for (int i = 0; i < routes.length; i++) {
            rows.append("chain(").append(bus).append(", ").append(i).append(") = ").append(routes[i]).append("; ");
        }
        return rows.append("chain(").append(bus).append(", ").append(routes.length).append(") = -1; ").toString();
    }

    private static void canFollow() {
        String sentence = "ROUTE b can FOLLOW ROUTE a if the minute of the BELL of a's SCHOOL, FAR of that SCHOOL and b's "
            + "first STOP, and SLACK, together, are not above b's START.";
        DUE.says(sentence, TWO, "follows(0, 1) = 0; follows(1, 0) = 0; bell(1, 1); follows(0, 1) = 1; follows(1, 0) = 0",
            "terms(40, 60, 10); follows(0, 1) = 1; terms(40, 60, 11); follows(0, 1) = 0; bell(1, 2); follows(0, 1) = 1",
            "terms(40, 60, 30); follows(0, 1) = 1; bell(0, 1); follows(0, 1) = 0");
        // 20 minutes: 19 over the street and one at the stop go, 20 over the street and one do not.
        DUE.says(sentence, Run.line(2, 19), "school(0, 0); school(0, 1); stop(0, 0, 1, 0); stop(1, 1, 1, 0); bell(1, 1)",
            "follows(0, 1) = 1");
        DUE.says(sentence, Run.line(2, 20), "school(0, 0); school(0, 1); stop(0, 0, 1, 0); stop(1, 1, 1, 0); bell(1, 1)",
            "follows(0, 1) = 0; bell(1, 2); follows(0, 1) = 1");
        // It is b's first stop that counts, and a's school: stop 1 lies far off, stop 2 beside b's school.
        DUE.says(sentence, Run.line(3, 6), "school(0, 0); school(0, 1); stop(0, 0, 1, 0); stop(1, 2, 1, 0); stop(1, 1, 1, 0)",
            "route(1, 0, 0) = 1; bell(1, 1); start(1) = 72; follows(0, 1) = 1; terms(40, 60, 1); follows(0, 1) = 0",
            "terms(40, 60, 0); bell(0, 3); bell(1, 2); follows(1, 0) = 1; terms(40, 60, 13); follows(1, 0) = 1; terms(40, 60, 14)",
            "follows(1, 0) = 0");
        // No FAR: never, however late the bell.
        DUE.says(sentence, TWO, "shut(0, true); bell(1, 6); follows(0, 1) = 0; buses() = 2; shut(0, false); follows(0, 1) = 1",
            "buses() = 1");
        // Two routes of one school come at the same bell.
        DUE.says(sentence, Run.corners(1), "school(0, 0); stop(0, 0, 30, 0); stop(0, 0, 30, 0); follows(0, 1) = 0",
            "follows(1, 0) = 0; buses() = 2");
    }

    private static void follows() {
        String sentence = "Whether ROUTE b can FOLLOW ROUTE a: 1, else 0. BEYOND: one is below 0, or they are one. NONE as "
            + "of start().";
        DUE.says(sentence, TWO, "bell(1, 3); follows(0, 1) = 1; follows(1, 0) = 0; told(6) = 0");
        DUE.refuses(sentence, TWO, "BEYOND", "follows(-1, 0)", "follows(0, -1)", "follows(0, 0)", "follows(1, 1)", "follows(2, 2)",
            "follows(MAX, MAX)", "follows(MIN, 0)", "follows(0, MIN)", "follows(-1, -1)", "follows(-1, 2)", "follows(2, -1)");
        DUE.refuses(sentence, TWO, "NONE", "follows(0, 2)", "follows(2, 0)", "follows(2, 3)", "follows(0, MAX)", "follows(MAX, 0)");
        DUE.refuses(sentence, NO_PLAN, "NONE", "follows(0, 1)", "follows(1, 0)");
        DUE.refuses(sentence, NO_PLAN, "BEYOND", "follows(1, 1)", "follows(-1, 0)");
    }

    private static void fewestBuses() {
        String sentence = "THE CHAINS: those with the fewest BUSES";
        DUE.says(sentence, FOUR, "buses() = 4", bells(0, 1, 2, 3), "buses() = 1", chain(0, 0, 1, 2, 3), bells(3, 2, 1, 0),
            "buses() = 1", chain(0, 3, 2, 1, 0), bells(0, 0, 1, 1), "buses() = 2", bells(0, 0, 0, 1), "buses() = 3",
            bells(6, 0, 0, 0), "buses() = 3", bells(6, 5, 6, 5), "buses() = 2");
        // Route 0 could be followed by 2 or 3, route 1 by 2 alone: the least for route 0 would cost a bus.
        DUE.says(sentence, Run.line(3, 15), "school(0, 1); school(0, 0); school(0, 1); school(0, 2); stop(0, 1, 1, 0)",
            "stop(1, 0, 1, 0); stop(2, 1, 1, 0); stop(3, 2, 1, 0); bell(2, 1); bell(3, 1); follows(0, 2) = 1; follows(0, 3) = 1",
            "follows(1, 2) = 1; follows(1, 3) = 0; buses() = 2", chain(0, 0, 3), chain(1, 1, 2));
    }

    private static void leastFollowers() {
        String sentence = "of several those in which ROUTE 0 is FOLLOWED by the ROUTE with the lesser number (by none comes "
            + "behind all numbers), then ROUTE 1, and so on";
        DUE.says(sentence, FOUR, bells(0, 0, 1, 1), chain(0, 0, 2), chain(1, 1, 3));
        // Either of 0 and 1 can be followed by 2, the only one: route 0 is, for none comes behind all numbers.
        DUE.says(sentence, FOUR, bells(0, 0, 1, 0), "buses() = 3", chain(0, 0, 2), chain(1, 1), chain(2, 3));
        // Route 0 is the last one of its bus in any case; route 1 is followed by 0 and not by 2.
        DUE.says(sentence, FOUR, bells(6, 0, 6, 0), "buses() = 2", chain(0, 1, 0), chain(1, 3, 2));
        // 0 can be followed by 1, 2 and 3, 1 by 2 and 3.
        DUE.says(sentence, FOUR, bells(0, 2, 4, 6), chain(0, 0, 1, 2, 3));
        // Both 0 and 3 can be followed by 1 or 2: 0 is by the lesser one.
        DUE.says(sentence, FOUR, bells(0, 1, 1, 0), "buses() = 2", chain(0, 0, 1), chain(1, 3, 2));
        DUE.says(sentence, FOUR, bells(1, 0, 2, 1), "buses() = 2", chain(0, 1, 0, 2), chain(1, 3));
        // Ten routes of four schools.
        DUE.says(sentence, Run.corners(1), Run.times(4, "school(0, 0); bell(#, #)"), Run.times(3, "stop(0, 0, 30, 0)"),
            Run.times(3, "stop(1, 0, 30, 0)"), Run.times(2, "stop(2, 0, 30, 0)"), Run.times(2, "stop(3, 0, 30, 0)"), "buses() = 3",
            chain(0, 0, 3, 6, 9), chain(1, 1, 4, 7), chain(2, 2, 5, 8), "chain(3, 0) = NONE");
    }

    private static void numbersOfBuses() {
        // Bus 0 drives route 1 alone; bus 1 drives 2 and then 0, the least number of all.
        DUE.says("BUSES are numbered by their first ROUTES.", FOUR, "gone(3)", bells(1, 1, 0, 0), "buses() = 2", chain(0, 1),
            chain(1, 2, 0), "chain(2, 0) = NONE");
        DUE.says("each ROUTE is driven by one", FOUR, bells(2, 0, 1, 1), "buses() = 2", chain(0, 1, 2, 0), chain(1, 3));
    }

    /** Chains are of the bells, routes and terms that there are when they are asked for. */
    private static void madeAnew() {
        DUE.says("BUSES drive ROUTES one behind the other, each of which can FOLLOW the one ahead", TWO, "buses() = 2; bell(1, 1)",
            "buses() = 1; terms(40, 60, 11); buses() = 2; street(0, 1, 8); buses() = 1; shut(1, true); buses() = 2; bell(0, 3)",
            "buses() = 1", chain(0, 1, 0), "take(0) = 1; buses() = 1", chain(0, 0, 1), "gone(0) = 1; buses() = 1", chain(0, 0),
            "stop(0, 0, 5, 0); buses() = 1", chain(0, 0, 1));
    }

    private static void buses() {
        String sentence = "How many BUSES THE CHAINS have. NONE: a SCHOOL has no PLAN.";
        DUE.says(sentence, "buses() = 0", Run.corners(1), "buses() = 0; school(0, 0); buses() = 0; stop(0, 0, 1, 0); buses() = 1",
            "told(6) = 0");
        DUE.says(sentence, NO_PLAN, "buses() = NONE; pupils(1, 5); buses() = 1");
        DUE.says(sentence, Run.corners(1), "school(0, 0)", Run.times(10, "stop(0, 0, 21, 0)"), "buses() = 10; chain(9, 0) = 9",
            "chain(9, 1) = -1; chain(10, 0) = NONE");
    }

    private static void chain() {
        DUE.says("The i-th ROUTE (from 0) of a BUS; -1 behind its last one (no finding).", FOUR, bells(0, 1, 2, 3),
            chain(0, 0, 1, 2, 3), "chain(0, 5) = -1; chain(0, 10) = -1; chain(0, MAX) = -1; told(6) = 0");
        DUE.says("The i-th ROUTE (from 0) of a BUS; -1 behind its last one (no finding).", FOUR, bells(1, 1, 0, 1), chain(0, 1),
            chain(1, 2, 0), chain(2, 3), Run.times(3, "chain(#, 2) = -1; chain(#, 3) = -1; chain(#, 4) = -1; chain(#, MAX) = -1"),
            "told(6) = 0");
        String sentence = "BEYOND: bus or i is below 0. NONE: a SCHOOL has no PLAN, or there is no such BUS.";
        DUE.refuses(sentence, TWO, "BEYOND", "chain(-1, 0)", "chain(0, -1)", "chain(MIN, 0)", "chain(0, MIN)", "chain(-1, -1)",
            "chain(2, -1)", "chain(MAX, -1)");
        DUE.refuses(sentence, TWO, "NONE", "chain(2, 0)", "chain(2, MAX)", "chain(MAX, 0)", "chain(MAX, MAX)");
        DUE.refuses(sentence, NO_PLAN, "NONE", "chain(0, 0)", "chain(1, 0)", "chain(0, 9)");
        DUE.refuses(sentence, NO_PLAN, "BEYOND", "chain(-1, 0)", "chain(0, -1)");
        DUE.says(sentence, TWO, "chain(1, 0) = 1; bell(1, 1); chain(1, 0) = NONE; chain(0, 1) = 1");
    }

    private static void aides() {
        String sentence = "How many BUSES drive a ROUTE of a SPECIAL SCHOOL. NONE: a SCHOOL has no PLAN.";
        DUE.says(sentence, "aides() = 0", FOUR, "aides() = 1", bells(0, 1, 2, 3), "aides() = 1", bells(3, 2, 1, 0), "aides() = 1",
            bells(0, 1, 3, 2), "aides() = 1; gone(3); aides() = 0; told(6) = 0");
        // Two special schools: a bus that drives both counts once.
        DUE.says(sentence, Run.corners(1), "school(3, 0); school(3, 0); stop(0, 0, 1, 0); stop(1, 0, 1, 0); aides() = 2",
            "bell(1, 1); buses() = 1; aides() = 1; bell(0, 2); aides() = 1");
        // Kinds over and beside SPECIAL have none.
        DUE.says(sentence, Run.corners(1), "school(0, 0); school(1, 0); school(2, 0); stop(0, 0, 1, 0); stop(1, 0, 1, 0)",
            "stop(2, 0, 1, 0); buses() = 3; aides() = 0; school(3, 0); aides() = 0");
        DUE.says(sentence, Run.corners(1), "school(3, 0)", Run.times(10, "stop(0, 0, 21, 0)"), "aides() = 10");
        DUE.says(sentence, NO_PLAN, "aides() = NONE; pupils(1, 5); aides() = 1");
    }

    public static void main(String[] args) {
        canFollow();
        follows();
        fewestBuses();
        leastFollowers();
        numbersOfBuses();
        madeAnew();
        buses();
        chain();
        aides();
        DUE.end();
    }
}
