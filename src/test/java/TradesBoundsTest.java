/** Sentence by sentence: costs and trades of 'Terms', and promises 27 to 30. */
public final class TradesBoundsTest {
    private static final Due DUE = new Due("TradesBoundsTest");

    /** Two schools at one corner, ten pupils each: one bus costs a bell's way from a wish, two cost nothing. */
    private static final String TWO = Run.corners(1) + "school(1, 0); school(2, 0); stop(0, 0, 10, 0); stop(1, 0, 10, 1);";
    private static final String NO_PLAN = TWO + "pupils(1, 11); terms(10, 60, 0);";
    private static final String NO_BELL = TWO + "bell(0, 5);" + Run.tape("u0-2;u3-6;") + "text();";

    /** BUSES, COST, and the BELLS of a trade. */
    private static String trade(int i, int... row) {
        StringBuilder rows = new StringBuilder();
        for (int what = 0; what < row.length; what++) {
            rows.append("trade(").append(i).append(", ").append(what).append(") = ").append(row[what]).append("; ");
        }
        return rows.toString();
    }

    private static void cost() {
        String sentence = "COST of BELLS: for each SCHOOL 20 times its PUPILS times what BELL and WISH differ by, together.";
        DUE.says(sentence, TWO, "cost() = 1200; bell(0, 3); cost() = 600; bell(1, 4); cost() = 200; bell(1, 2); cost() = 200",
            "wish(1, 6); cost() = 800; pupils(1, 1); cost() = 80; wish(0, 0); cost() = 680");
        DUE.says(sentence, Run.corners(1), "school(0, 0); cost() = 0; wish(0, 6)", Run.times(10, "stop(0, 0, 30, 0)"),
            "cost() = 36000; wish(0, 0); cost() = 0; bell(0, 6); cost() = 36000");
        DUE.says("COST of the BELLS as they are.", "cost() = 0", NO_PLAN, "routes(1) = NONE; cost() = 1260", Run.tape("s6-6;"),
            "text() = 1; allowed(0, 0) = 0; cost() = 1260; told(6) = 1");
    }

    private static void best() {
        String sentence = "of which no other ALLOWED BELLS have both not more, and one less";
        DUE.says(sentence, TWO, "trades() = 2", trade(0, 1, 200, 2, 3), trade(1, 2, 0, 3, 3), "trade(2, 0) = NONE");
        // Wishes that differ already: one bus for nothing, so two buses are no trade.
        DUE.says(sentence, TWO, "wish(1, 4); trades() = 1", trade(0, 1, 0, 3, 4), "trade(1, 0) = NONE");
        // SLACK that needs two bells between them: both bells are moved by one, or one by two, whichever costs less.
        DUE.says(sentence, TWO, "terms(40, 60, 20); trades() = 2", trade(0, 1, 400, 1, 3), trade(1, 2, 0, 3, 3), "pupils(0, 11)",
            trade(0, 1, 400, 3, 1));
        // Only what rules allow is looked at, and the bells as they are don't count.
        DUE.says(sentence, TWO, "bell(0, 0); bell(1, 6)", Run.tape("s3-3;"), "text(); trades() = 1", trade(0, 2, 0, 3, 3),
            Run.tape("s5-5;"), "text(); trades() = 1", trade(0, 2, 800, 5, 5));
        DUE.says(sentence, TWO, Run.tape("l0-0;u6-6;"), "text(); trades() = 1", trade(0, 1, 1200, 0, 6));
        // One, two and three buses all have their price; a fourth school's wish makes no more of them.
        DUE.says(sentence, Run.corners(1), Run.times(3, "school(0, 0)"), "stop(0, 0, 5, 0); stop(1, 0, 10, 0); stop(2, 0, 15, 0)",
            "trades() = 3", trade(0, 1, 300, 2, 4, 3), trade(1, 2, 100, 2, 3, 3), trade(2, 3, 0, 3, 3, 3), "school(0, 0)",
            "trades() = 3", trade(0, 1, 300, 2, 4, 3, 0));
    }

    /** Trades are of what there is when they are asked for: each row changes something that they depend on. */
    private static void madeAnew() {
        String sentence = "A TRADE: ALLOWED BELLS for all SCHOOLS, with the BUSES and the COST that they have";
        DUE.says(sentence, TWO, trade(0, 1, 200, 2, 3), "wish(0, 1)", trade(0, 1, 0, 1, 3), "wish(0, 3); pupils(0, 5)",
            trade(0, 1, 100, 2, 3), "terms(40, 60, 20)", trade(0, 1, 200, 1, 3), "terms(40, 60, 0); stop(1, 0, 30, 0)",
            trade(0, 1, 100, 2, 3), "pupils(1, 11); trades() = 2", trade(0, 2, 100, 2, 3), trade(1, 3, 0, 3, 3), "sheet(0, 8, 1)",
            "write(0, 0, 1); read(0, 1) = 1", trade(0, 1, 100, 2, 3), Run.tape("l4-4;"), "text() = 1; trades() = 1",
            trade(0, 1, 100, 4, 3), "gone(0) = 2; trades() = 1", trade(0, 1, 0, 4, 3), "school(0, 0) = 2; trades() = 1",
            trade(0, 1, 0, 4, 3, 0));
        DUE.says(sentence, Run.line(2, 5), "school(0, 0); school(0, 1); stop(0, 0, 10, 0); stop(1, 1, 10, 0); terms(40, 60, 14)",
            trade(0, 1, 200, 2, 3), "terms(40, 60, 15)", trade(0, 1, 400, 1, 3), "street(0, 1, 4)", trade(0, 1, 200, 2, 3),
            "shut(1, true)", trade(0, 1, 400, 1, 3), "shut(0, true); trades() = 1", trade(0, 2, 0, 3, 3));
        // School 0 had two routes and has one: where one bus costs more than two, it is a trade again.
        DUE.says(sentence, TWO, Run.tape("l3-6;u3-6;"), "text() = 2; pupils(0, 11); stop(0, 0, 30, 0); trades() = 2",
            trade(0, 2, 200, 3, 4), trade(1, 3, 0, 3, 3), "gone(2) = 2; trades() = 2", trade(0, 1, 200, 3, 4),
            trade(1, 2, 0, 3, 3));
    }

    private static void firstOfEquals() {
        String sentence = "Of TRADES with the same BUSES and COST only the first one counts, by the lesser BELL of SCHOOL 0, "
            + "then of SCHOOL 1, and so on";
        DUE.says(sentence, TWO, trade(0, 1, 200, 2, 3));
        DUE.says(sentence, TWO, Run.tape("l3-3;"), "text(); trades() = 2", trade(0, 1, 200, 3, 2));
        DUE.says(sentence, TWO, Run.tape("l3-6;u3-6;"), "text(); trades() = 2", trade(0, 1, 200, 3, 4));
        // Schools without pupils cost nothing at any bell: each has its least one.
        DUE.says(sentence, Run.corners(1), Run.times(4, "school(#, 0)"), "stop(1, 0, 10, 0); trades() = 1",
            trade(0, 1, 0, 0, 3, 0, 0), Run.tape("u4-6;x2-5;"), "text() = 2", trade(0, 1, 0, 0, 3, 4, 2));
        DUE.says(sentence, Run.corners(1), Run.times(4, "school(#, 0)"), "trades() = 1", trade(0, 0, 0, 0, 0, 0, 0));
        DUE.says("they are numbered from 0 on, by BUSES, the fewest first", Run.corners(1),
            Run.times(4, "school(0, 0); stop(#, 0, 10, 0)"), "trades() = 4", trade(0, 1, 800, 1, 2, 3, 4),
            trade(1, 2, 400, 2, 2, 3, 3), trade(2, 3, 200, 2, 3, 3, 3), trade(3, 4, 0, 3, 3, 3, 3), "trade(4, 0) = NONE");
        DUE.says("they are numbered from 0 on, by BUSES, the fewest first", Run.corners(1), "school(0, 0)",
            Run.times(10, "stop(0, 0, 21, 0)"), "trades() = 1", trade(0, 10, 0, 3));
    }

    private static void trades() {
        String sentence = "How many TRADES there are. NONE: a SCHOOL has no PLAN, or no ALLOWED BELL.";
        DUE.says(sentence, "trades() = 1", Run.corners(1), "trades() = 1; school(0, 0); trades() = 1; told(6) = 0");
        DUE.says(sentence, NO_PLAN, "trades() = NONE; terms(11, 60, 0); trades() = 2; pupils(0, 12); trades() = NONE; gone(0) = 1",
            "trades() = 1");
        DUE.says(sentence, NO_BELL, "trades() = NONE; text() = 0; trades() = 2");
        // A school without stops needs a bell all the same.
        DUE.says(sentence, TWO, Run.tape("x0-2;x3-6;"), "text() = 2; trades() = 2; school(3, 0) = 2; trades() = NONE");
    }

    private static void tradeCall() {
        DUE.says("Of TRADE i: what 0 BUSES, 1 COST, 2 and s: the BELL of SCHOOL s.", TWO, "bell(0, 6); wish(1, 5)",
            trade(0, 1, 0, 3, 5), "told(6) = 0");
        DUE.says("Of TRADE i: what 0 BUSES, 1 COST, 2 and s: the BELL of SCHOOL s.", Run.corners(1),
            Run.times(4, "school(0, 0); wish(#, #); stop(#, 0, 1, 0)"), trade(0, 1, 0, 0, 1, 2, 3), "trade(0, 6) = BEYOND");
        String sentence = "BEYOND: i is below 0, what is below 0, or no such SCHOOL. NONE as of trades(), or there is no "
            + "such TRADE.";
        DUE.refuses(sentence, TWO, "BEYOND", "trade(-1, 0)", "trade(MIN, 0)", "trade(0, -1)", "trade(0, MIN)", "trade(0, 4)",
            "trade(0, 5)", "trade(0, MAX)", "trade(2, 4)", "trade(2, -1)", "trade(-1, 9)");
        DUE.refuses(sentence, TWO, "NONE", "trade(2, 0)", "trade(2, 3)", "trade(3, 1)", "trade(MAX, 0)");
        DUE.refuses(sentence, "", "BEYOND", "trade(0, 2)", "trade(1, 2)");
        DUE.refuses(sentence, "", "NONE", "trade(1, 0)", "trade(1, 1)");
        DUE.refuses(sentence, NO_PLAN, "NONE", "trade(0, 0)", "trade(0, 1)", "trade(0, 2)", "trade(9, 3)");
        DUE.refuses(sentence, NO_PLAN, "BEYOND", "trade(-1, 0)", "trade(0, -1)", "trade(0, 4)");
        DUE.refuses(sentence, NO_BELL, "NONE", "trade(0, 0)", "trade(0, 3)", "trade(MAX, 3)");
        DUE.refuses(sentence, NO_BELL, "BEYOND", "trade(-1, 0)", "trade(0, -1)", "trade(0, 4)");
    }

    private static void take() {
        DUE.says("BELLS become those of TRADE i: its BUSES.", TWO, "bell(0, 6); take(0) = 1; of(0, 2) = 2; of(1, 2) = 3",
            "buses() = 1; cost() = 200; take(1) = 2; of(0, 2) = 3; of(1, 2) = 3; buses() = 2; cost() = 0; take(0) = 1",
            "chain(0, 0) = 0; chain(0, 1) = 1; of(0, 3) = 3; of(1, 3) = 3; trades() = 2; told(6) = 0");
        DUE.says("BELLS become those of TRADE i: its BUSES.", "take(0) = 0", Run.corners(1),
            Run.times(4, "school(0, 0); stop(#, 0, 10, 0); bell(#, 6)"), "take(0) = 1; of(0, 2) = 1; of(1, 2) = 2; of(2, 2) = 3",
            "of(3, 2) = 4; start(3) = 139");
        String sentence = "BEYOND: i is below 0. NONE as of trade().";
        DUE.refuses(sentence, TWO + "bell(0, 6); bell(1, 1);", "BEYOND", "take(-1)", "take(MIN)");
        DUE.refuses(sentence, TWO + "bell(0, 6); bell(1, 1);", "NONE", "take(2)", "take(MAX)");
        DUE.refuses(sentence, "", "NONE", "take(1)", "take(MAX)");
        DUE.refuses(sentence, NO_PLAN, "NONE", "take(0)", "take(1)");
        DUE.refuses(sentence, NO_PLAN, "BEYOND", "take(-1)", "take(MIN)");
        DUE.refuses(sentence, NO_BELL, "NONE", "take(0)", "take(1)");
        DUE.refuses(sentence, NO_BELL, "BEYOND", "take(-1)", "take(MIN)");
    }

    public static void main(String[] args) {
        cost();
        best();
        madeAnew();
        firstOfEquals();
        trades();
        tradeCall();
        take();
        DUE.end();
    }
}
