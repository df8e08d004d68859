/** Promises 1 to 5: a new object, corner, street, shut, far. */
public final class TownTest {
    private static final Due DUE = new Due("TownTest");

    private static void newObject() {
        BellWaves x = new BellWaves();
        for (int what = 0; what < 7; what++) {
            DUE.is("told(" + what + ") of a new object", x.told(what), 0);
        }
        for (int s = 0; s < 4; s++) {
            DUE.is("write on sheet " + s + " of a new object", x.write(s, 0, 1), Due.MISSING);
        }
        DUE.is("text() of an empty tape", x.text(), 0);
        DUE.is("all() without schools", x.all(), 0);
        DUE.is("comes(0) without a morning", x.comes(0), Due.NONE);
        DUE.is("cost() without schools", x.cost(), 0);
        BellWaves y = new BellWaves();
        x.corner();
        DUE.is("another object's corners", y.told(0), 0);
    }

    private static void corners() {
        BellWaves x = new BellWaves();
        for (int c = 0; c < 8; c++) {
            DUE.is("corner() " + c, x.corner(), c);
        }
        DUE.is("a 9th corner()", x.corner(), Due.FULL);
        DUE.is("told(0)", x.told(0), 8);
        DUE.is("told(6)", x.told(6), 1);
        DUE.is("far(7, 7)", x.far(7, 7), 0);
    }

    private static void streets() {
        BellWaves x = new BellWaves();
        DUE.is("street without corners", x.street(0, 1, 5), Due.BEYOND);
        x.corner();
        x.corner();
        int[][] wrong = {{-1, 1, 5}, {0, 2, 5}, {2, 0, 5}, {0, -1, 5}, {1, 1, 5}, {0, 1, 0}, {0, 1, 21}, {0, 1, -3},
            {Integer.MAX_VALUE, 0, 5}, {0, Integer.MIN_VALUE, 5}};
        for (int[] w : wrong) {
            DUE.is("street(" + w[0] + ", " + w[1] + ", " + w[2] + ")", x.street(w[0], w[1], w[2]), Due.BEYOND);
        }
        DUE.is("told(1)", x.told(1), 0);
        DUE.is("street(0, 1, 20)", x.street(0, 1, 20), 0);
        DUE.is("street(1, 0, 1)", x.street(1, 0, 1), 1);
        for (int s = 2; s < 14; s++) {
            DUE.is("street " + s, x.street(0, 1, 20), s);
        }
        DUE.is("a 15th street", x.street(0, 1, 5), Due.FULL);
        DUE.is("BEYOND is asked ahead of FULL", x.street(0, 0, 5), Due.BEYOND);
        DUE.is("told(1)", x.told(1), 14);
        DUE.is("the least of several streets", x.far(0, 1), 1);
    }

    private static void shut() {
        BellWaves x = Due.row(3, 4);
        DUE.is("street(0, 2, 15)", x.street(0, 2, 15), 2);
        DUE.is("far(0, 2)", x.far(0, 2), 8);
        DUE.is("shut(0, false)", x.shut(0, false), 0);
        DUE.is("shut(0, true)", x.shut(0, true), 1);
        DUE.is("shut(0, true) again", x.shut(0, true), 0);
        DUE.is("far(0, 2) over the open street", x.far(0, 2), 15);
        DUE.is("far(0, 1) over the open streets", x.far(0, 1), 19);
        DUE.is("shut(2, true)", x.shut(2, true), 1);
        DUE.is("far(0, 2) with no way", x.far(0, 2), Due.NONE);
        DUE.is("far(0, 0) with no way out", x.far(0, 0), 0);
        DUE.is("shut(0, false)", x.shut(0, false), 1);
        DUE.is("far(2, 0)", x.far(2, 0), 8);
        DUE.is("shut(3, true)", x.shut(3, true), Due.BEYOND);
        DUE.is("shut(-1, false)", x.shut(-1, false), Due.BEYOND);
        DUE.is("told(6)", x.told(6), 3);
    }

    private static void far() {
        BellWaves x = Due.row(8, 20);
        DUE.is("far(0, 7)", x.far(0, 7), 140);
        DUE.is("far(7, 0)", x.far(7, 0), 140);
        DUE.is("far(0, 8)", x.far(0, 8), Due.BEYOND);
        DUE.is("far(-1, 0)", x.far(-1, 0), Due.BEYOND);
        DUE.is("far(8, 8)", x.far(8, 8), Due.BEYOND);
        BellWaves y = new BellWaves();
        DUE.is("far without corners", y.far(0, 0), Due.BEYOND);
        y.corner();
        y.corner();
        DUE.is("far without streets", y.far(0, 1), Due.NONE);
        DUE.is("street(1, 0, 7)", y.street(1, 0, 7), 0);
        DUE.is("far(0, 1)", y.far(0, 1), 7);
        y.corner();
        DUE.is("far of a corner that came behind an asking", y.far(0, 2), Due.NONE);
        DUE.is("told(6)", y.told(6), 3);
    }

    public static void main(String[] args) {
        newObject();
        corners();
        streets();
        shut();
        far();
        DUE.end();
    }
}
