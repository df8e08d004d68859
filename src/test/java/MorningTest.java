/** Promises 31 to 33: morning, comes, fair. */
public final class MorningTest {
    private static final Due DUE = new Due("MorningTest");

    /** Three schools in a row, a street of 3 minutes between them, one stop each; the bus drives 0, 1, 2. */
    private static BellWaves row() {
        BellWaves x = Due.row(3, 3);
        for (int s = 0; s < 3; s++) {
            x.school(s, s);
            x.stop(s, s, 10 + s, s);
            x.bell(s, s);
        }
        return x;
    }

    private static void askComes(BellWaves x, int... minutes) {
        for (int r = 0; r < minutes.length; r++) {
            DUE.is("comes(" + r + ")", x.comes(r), minutes[r]);
        }
        DUE.is("comes(" + minutes.length + ")", x.comes(minutes.length), Due.NONE);
    }

    private static void findings() {
        BellWaves x = row();
        DUE.is("comes(0) without a morning", x.comes(0), Due.NONE);
        DUE.is("comes(-1)", x.comes(-1), Due.BEYOND);
        int[][] wrong = {{-1, 0, 0}, {0, -1, 0}, {0, 61, 0}, {0, 0, -1}, {0, 0, 11}, {9, 61, 0}};
        for (int[] w : wrong) {
            DUE.is("morning(" + w[0] + ", " + w[1] + ", " + w[2] + ")", x.morning(w[0], w[1], w[2]), Due.BEYOND);
        }
        DUE.is("morning(3, 0, 0)", x.morning(3, 0, 0), Due.NONE);
        DUE.is("comes(0) still", x.comes(0), Due.NONE);
        DUE.is("morning(0, 5, 0)", x.morning(0, 5, 0), 10);
        askComes(x, 65, 80, 100);
        DUE.is("morning(3, 0, 0)", x.morning(3, 0, 0), Due.NONE);
        DUE.is("morning(0, 0, 11)", x.morning(0, 0, 11), Due.BEYOND);
        askComes(x, 65, 80, 100);
        x.terms(9, 60, 0);
        DUE.is("morning(0, 0, 0) without a plan", x.morning(0, 0, 0), Due.NONE);
        x.gone(0);
        x.bell(2, 5);
        askComes(x, 65, 80, 100);
        BellWaves y = Due.row(1, 1);
        DUE.is("morning(0, 0, 0) without routes", y.morning(0, 0, 0), Due.NONE);
    }

    private static void late() {
        BellWaves x = row();
        DUE.is("buses()", x.buses(), 1);
        DUE.is("morning(0, 0, 0)", x.morning(0, 0, 0), 0);
        askComes(x, 60, 80, 100);
        DUE.is("morning(0, 16, 0)", x.morning(0, 16, 0), 10);
        askComes(x, 76, 80, 100);
        DUE.is("morning(0, 17, 0)", x.morning(0, 17, 0), 21);
        askComes(x, 77, 81, 100);
        DUE.is("morning(0, 60, 0)", x.morning(0, 60, 0), 33);
        askComes(x, 120, 124, 128);
        DUE.is("morning(2, 60, 0)", x.morning(2, 60, 0), 12);
        askComes(x, 60, 80, 160);
        x.terms(40, 60, 16);
        DUE.is("buses() with slack", x.buses(), 1);
        DUE.is("no slack is waited for", x.morning(0, 16, 0), 10);
        askComes(x, 76, 80, 100);
    }

    private static void snow() {
        BellWaves x = row();
        DUE.is("snow on the ways between alone", x.morning(0, 0, 10), 0);
        askComes(x, 60, 80, 100);
        DUE.is("late and snow", x.morning(0, 7, 10), 10 + 11);
        askComes(x, 67, 81, 100);
        BellWaves y = new BellWaves();
        y.corner();
        y.corner();
        y.corner();
        y.street(0, 1, 1);
        y.street(1, 2, 1);
        y.street(0, 2, 4);
        y.school(0, 0);
        y.stop(0, 2, 8, 0);
        DUE.is("start(0)", y.start(0), 57);
        DUE.is("snow leads over the one street", y.morning(0, 0, 5), 8);
        askComes(y, 57 + 1 + 9);
        DUE.is("the plan is told without snow", y.route(0, 0, -1), 3);
        DUE.is("far(0, 2) is without snow", y.far(0, 2), 2);
        y.shut(2, true);
        DUE.is("a shut street stays shut", y.morning(0, 0, 5), 8);
        askComes(y, 57 + 1 + 12);
    }

    /** With snow another order would be shorter, but it is driven as it is told. */
    private static void orders() {
        BellWaves x = Due.row(3, 1);
        x.corner();
        x.street(0, 3, 3);
        x.school(0, 0);
        x.stop(0, 2, 2, 0);
        x.stop(0, 3, 3, 0);
        DUE.is("route(0, 0, 0)", x.route(0, 0, 0), 1);
        DUE.is("route(0, 0, -1)", x.route(0, 0, -1), 2 + 5 + 2);
        DUE.is("morning(0, 0, 5)", x.morning(0, 0, 5), 5);
        askComes(x, 51 + 2 + 20 + 12);
    }

    private static void fair() {
        BellWaves x = Due.row(3, 4);
        x.school(0, 0);
        x.school(1, 2);
        x.stop(0, 1, 10, 0);
        x.stop(0, 2, 20, 0);
        x.stop(1, 0, 7, 0);
        x.stop(1, 2, 3, 2);
        DUE.is("fair(0, 0)", x.fair(0, 0), 37);
        DUE.is("fair(0, 1)", x.fair(0, 1), 10 * 5 + 20 * 10 + 7 * 10);
        DUE.is("fair(0, 2)", x.fair(0, 2), 10);
        DUE.is("fair(2, 1)", x.fair(2, 1), 3);
        DUE.is("fair(2, 2)", x.fair(2, 2), 1);
        DUE.is("fair(0, 3)", x.fair(0, 3), 37 * 60);
        for (int what = 0; what < 4; what++) {
            DUE.is("fair(1, " + what + ") without stops", x.fair(1, what), 0);
        }
        x.bell(0, 3);
        x.bell(1, 2);
        DUE.is("fair(0, 3)", x.fair(0, 3), 7 * 20);
        x.bell(1, 6);
        DUE.is("fair(0, 3) of bells behind wishes", x.fair(0, 3), 0);
        DUE.is("fair(-1, 0)", x.fair(-1, 0), Due.BEYOND);
        DUE.is("fair(4, 0)", x.fair(4, 0), Due.BEYOND);
        DUE.is("fair(0, -1)", x.fair(0, -1), Due.BEYOND);
        DUE.is("fair(0, 4)", x.fair(0, 4), Due.BEYOND);
        x.gone(3);
        x.gone(2);
        x.terms(10, 60, 0);
        DUE.is("fair(0, 0) without a plan", x.fair(0, 0), 30);
        DUE.is("fair(0, 1) without a plan", x.fair(0, 1), Due.NONE);
        DUE.is("fair(3, 2) of a quarter without stops", x.fair(3, 2), Due.NONE);
        DUE.is("fair(0, 3) without a plan", x.fair(0, 3), 0);
    }

    public static void main(String[] args) {
        findings();
        late();
        snow();
        orders();
        fair();
        DUE.end();
    }
}
