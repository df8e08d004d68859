/** Promises 6 to 14: school, as, of, bell, wish, stop, pupils, gone, terms. */
public final class SchoolsTest {
    private static final Due DUE = new Due("SchoolsTest");

    private static void school() {
        BellWaves x = new BellWaves();
        DUE.is("school without corners", x.school(0, 0), Due.BEYOND);
        x.corner();
        DUE.is("school(-1, 0)", x.school(-1, 0), Due.BEYOND);
        DUE.is("school(4, 0)", x.school(4, 0), Due.BEYOND);
        DUE.is("school(0, 1)", x.school(0, 1), Due.BEYOND);
        DUE.is("school(0, -1)", x.school(0, -1), Due.BEYOND);
        for (int kind = 0; kind < 4; kind++) {
            DUE.is("school of kind " + kind, x.school(kind, 0), kind);
        }
        DUE.is("a 5th school", x.school(0, 0), Due.FULL);
        DUE.is("BEYOND is asked ahead of FULL", x.school(9, 0), Due.BEYOND);
        DUE.is("told(2)", x.told(2), 4);
        DUE.is("told(6)", x.told(6), 7);
    }

    private static void as() {
        BellWaves x = Due.row(1, 1);
        int[][] isOf = {{1, 0, 0, 0}, {1, 1, 0, 0}, {1, 0, 1, 0}, {1, 1, 0, 1}};
        for (int s = 0; s < 4; s++) {
            x.school(s, 0);
            for (int kind = 0; kind < 4; kind++) {
                DUE.is("as(" + s + ", " + kind + ")", x.as(s, kind), isOf[s][kind] == 1 ? s : Due.KIND);
            }
        }
        DUE.is("as(4, 0)", x.as(4, 0), Due.BEYOND);
        DUE.is("as(-1, 0)", x.as(-1, 0), Due.BEYOND);
        DUE.is("as(0, 4)", x.as(0, 4), Due.BEYOND);
        DUE.is("as(0, -1)", x.as(0, -1), Due.BEYOND);
    }

    private static void of() {
        BellWaves x = Due.row(3, 5);
        x.school(2, 1);
        x.school(3, 2);
        x.stop(0, 0, 7, 0);
        x.stop(1, 0, 9, 0);
        x.stop(0, 2, 30, 1);
        int[] first = {2, 1, 0, 3, 2, 37, 60};
        int[] second = {3, 2, 0, 3, 1, 9, 30};
        for (int what = 0; what < 7; what++) {
            DUE.is("of(0, " + what + ")", x.of(0, what), first[what]);
            DUE.is("of(1, " + what + ")", x.of(1, what), second[what]);
        }
        x.terms(40, 61, 0);
        DUE.is("of(0, 6)", x.of(0, 6), 61);
        DUE.is("of(1, 6): half, cut", x.of(1, 6), 30);
        x.terms(40, 1, 0);
        DUE.is("of(1, 6) of a ride of 1", x.of(1, 6), 0);
        DUE.is("of(2, 0)", x.of(2, 0), Due.BEYOND);
        DUE.is("of(-1, 0)", x.of(-1, 0), Due.BEYOND);
        DUE.is("of(0, 7)", x.of(0, 7), Due.BEYOND);
        DUE.is("of(0, -1)", x.of(0, -1), Due.BEYOND);
    }

    private static void bellAndWish() {
        BellWaves x = Due.row(1, 1);
        DUE.is("bell without schools", x.bell(0, 0), Due.BEYOND);
        DUE.is("wish without schools", x.wish(0, 0), Due.BEYOND);
        x.school(0, 0);
        DUE.is("bell(0, 6)", x.bell(0, 6), 0);
        DUE.is("bell(0, 2)", x.bell(0, 2), 6);
        DUE.is("wish(0, 0)", x.wish(0, 0), 3);
        DUE.is("wish(0, 5)", x.wish(0, 5), 0);
        DUE.is("bell(0, 7)", x.bell(0, 7), Due.BEYOND);
        DUE.is("bell(0, -1)", x.bell(0, -1), Due.BEYOND);
        DUE.is("bell(1, 0)", x.bell(1, 0), Due.BEYOND);
        DUE.is("wish(0, 7)", x.wish(0, 7), Due.BEYOND);
        DUE.is("wish(0, -1)", x.wish(0, -1), Due.BEYOND);
        DUE.is("wish(-1, 0)", x.wish(-1, 0), Due.BEYOND);
        DUE.is("of(0, 2)", x.of(0, 2), 2);
        DUE.is("of(0, 3)", x.of(0, 3), 5);
        Due.feedText(x, "s0-1;");
        DUE.is("text()", x.text(), 1);
        DUE.is("a bell that is not allowed can ring", x.bell(0, 4), 2);
        DUE.is("of(0, 2)", x.of(0, 2), 4);
    }

    private static void stop() {
        BellWaves x = Due.row(2, 1);
        DUE.is("stop without schools", x.stop(0, 0, 1, 0), Due.BEYOND);
        x.school(0, 0);
        int[][] wrong = {{-1, 0, 1, 0}, {1, 0, 1, 0}, {0, -1, 1, 0}, {0, 2, 1, 0}, {0, 0, 0, 0}, {0, 0, 31, 0},
            {0, 0, 1, -1}, {0, 0, 1, 4}};
        for (int[] w : wrong) {
            DUE.is("stop(" + w[0] + ", " + w[1] + ", " + w[2] + ", " + w[3] + ")", x.stop(w[0], w[1], w[2], w[3]), Due.BEYOND);
        }
        for (int s = 0; s < 10; s++) {
            DUE.is("stop " + s, x.stop(0, s % 2, s % 2 == 0 ? 1 : 30, s % 4), s);
        }
        DUE.is("an 11th stop", x.stop(0, 0, 1, 0), Due.FULL);
        DUE.is("BEYOND is asked ahead of FULL", x.stop(0, 0, 1, 9), Due.BEYOND);
        DUE.is("told(3)", x.told(3), 10);
        DUE.is("of(0, 5)", x.of(0, 5), 155);
    }

    private static void pupils() {
        BellWaves x = Due.row(1, 1);
        x.school(0, 0);
        x.stop(0, 0, 12, 0);
        DUE.is("pupils(0, 30)", x.pupils(0, 30), 12);
        DUE.is("pupils(0, 1)", x.pupils(0, 1), 30);
        DUE.is("pupils(0, 0)", x.pupils(0, 0), Due.BEYOND);
        DUE.is("pupils(0, 31)", x.pupils(0, 31), Due.BEYOND);
        DUE.is("pupils(1, 1)", x.pupils(1, 1), Due.BEYOND);
        DUE.is("pupils(-1, 1)", x.pupils(-1, 1), Due.BEYOND);
        DUE.is("of(0, 5)", x.of(0, 5), 1);
        x.stop(0, 0, 20, 0);
        DUE.is("routes(0)", x.routes(0), 1);
        x.pupils(0, 21);
        DUE.is("routes(0) with one pupil too many", x.routes(0), 2);
    }

    private static void gone() {
        BellWaves x = Due.row(2, 1);
        x.school(0, 0);
        x.school(0, 1);
        x.stop(0, 0, 1, 0);
        x.stop(1, 1, 2, 1);
        x.stop(0, 1, 3, 2);
        DUE.is("routes(0)", x.routes(0), 1);
        DUE.is("gone(3)", x.gone(3), Due.BEYOND);
        DUE.is("gone(-1)", x.gone(-1), Due.BEYOND);
        DUE.is("gone(0)", x.gone(0), 2);
        DUE.is("of(0, 4)", x.of(0, 4), 1);
        DUE.is("stop 2 is 1 now", x.route(0, 0, 0), 1);
        DUE.is("stop 1 is 0 now", x.route(1, 0, 0), 0);
        DUE.is("pupils(1, 9)", x.pupils(1, 9), 3);
        DUE.is("fair(2, 0)", x.fair(2, 0), 9);
        DUE.is("a new stop takes the next number", x.stop(0, 0, 5, 3), 2);
        DUE.is("pupils(2, 6)", x.pupils(2, 6), 5);
        DUE.is("pupils(0, 2)", x.pupils(0, 2), 2);
        DUE.is("gone(2)", x.gone(2), 2);
        DUE.is("gone(1)", x.gone(1), 1);
        DUE.is("gone(0)", x.gone(0), 0);
        DUE.is("gone(0) without stops", x.gone(0), Due.BEYOND);
    }

    private static void terms() {
        BellWaves x = Due.row(2, 10);
        x.school(0, 0);
        x.stop(0, 1, 20, 0);
        x.stop(0, 1, 20, 0);
        DUE.is("40 seats at first", x.routes(0), 1);
        int[][] wrong = {{0, 60, 0}, {61, 60, 0}, {40, 0, 0}, {40, 91, 0}, {40, 60, -1}, {40, 60, 31}};
        for (int[] w : wrong) {
            DUE.is("terms(" + w[0] + ", " + w[1] + ", " + w[2] + ")", x.terms(w[0], w[1], w[2]), Due.BEYOND);
        }
        DUE.is("of(0, 6) behind wrong terms", x.of(0, 6), 60);
        DUE.is("terms(39, 90, 30)", x.terms(39, 90, 30), 1);
        DUE.is("routes(0) with 39 seats", x.routes(0), 2);
        DUE.is("of(0, 6)", x.of(0, 6), 90);
        DUE.is("terms(60, 12, 0)", x.terms(60, 12, 0), 1);
        DUE.is("routes(0) with a ride of 12", x.routes(0), 1);
        DUE.is("terms(60, 11, 0)", x.terms(60, 11, 0), 1);
        DUE.is("routes(0) with a ride of 11", x.routes(0), 2);
        DUE.is("terms(1, 1, 0)", x.terms(1, 1, 0), 1);
        DUE.is("routes(0) with one seat", x.routes(0), Due.NONE);
    }

    public static void main(String[] args) {
        school();
        as();
        of();
        bellAndWish();
        stop();
        pupils();
        gone();
        terms();
        DUE.end();
    }
}
