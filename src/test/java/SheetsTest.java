/** Promises 34 to 38: sheet, write, copy, read, told. */
public final class SheetsTest {
    private static final Due DUE = new Due("SheetsTest");

    private static void sheet() {
        BellWaves x = new BellWaves();
        DUE.is("sheet(-1, 8, 1)", x.sheet(-1, 8, 1), Due.BEYOND);
        DUE.is("sheet(4, 8, 1)", x.sheet(4, 8, 1), Due.BEYOND);
        DUE.is("sheet(4, 8, -1)", x.sheet(4, 8, -1), Due.BEYOND);
        int[] bits = {-8, 1, 7, 9, 24, 31, 33, 64};
        for (int b : bits) {
            DUE.is("sheet(0, " + b + ", -1)", x.sheet(0, b, -1), Due.BEYOND);
        }
        DUE.is("sheet(0, 8, -1)", x.sheet(0, 8, -1), Due.SIZE);
        DUE.is("sheet(0, 8, 11)", x.sheet(0, 8, 11), Due.BEYOND);
        DUE.is("sheet(0, 0, -1)", x.sheet(0, 0, -1), Due.SIZE);
        DUE.is("sheet(0, 0, 11)", x.sheet(0, 0, 11), Due.BEYOND);
        DUE.is("still missing", x.write(0, 0, 0), Due.MISSING);
        DUE.is("sheet(0, 32, 10)", x.sheet(0, 32, 10), 10);
        DUE.is("write(0, 9, 5)", x.write(0, 9, 5), 0);
        DUE.is("sheet(0, 32, 10) anew", x.sheet(0, 32, 10), 10);
        DUE.is("all are 0", x.write(0, 9, 1), 0);
        DUE.is("sheet(0, 32, 2)", x.sheet(0, 32, 2), 2);
        DUE.is("write(0, 2, 1)", x.write(0, 2, 1), Due.BEYOND);
        DUE.is("sheet(0, 0, 5)", x.sheet(0, 0, 5), 0);
        DUE.is("it is missing", x.write(0, 0, 1), Due.MISSING);
        DUE.is("sheet(3, 16, 0)", x.sheet(3, 16, 0), 0);
        DUE.is("a sheet of no numbers is not missing", x.write(3, 0, 1), Due.BEYOND);
    }

    private static void write() {
        BellWaves x = new BellWaves();
        x.sheet(0, 8, 2);
        x.sheet(1, 16, 2);
        x.sheet(2, 32, 2);
        int[] values = {127, 128, 255, 256, -1, -129, 32767, 32768, 65535, 65536, Integer.MAX_VALUE, Integer.MIN_VALUE, -1000001};
        int[] low8 = {127, -128, -1, 0, -1, 127, -1, 0, -1, 0, -1, 0, -65};
        int[] low16 = {127, 128, 255, 256, -1, -129, 32767, -32768, -1, 0, -1, 0, -16961};
        for (int i = 0; i < values.length; i++) {
            x.write(0, 1, values[i]);
            x.write(1, 1, values[i]);
            x.write(2, 1, values[i]);
            DUE.is("8 bits of " + values[i], x.write(0, 1, 0), low8[i]);
            DUE.is("16 bits of " + values[i], x.write(1, 1, 0), low16[i]);
            DUE.is("32 bits of " + values[i], x.write(2, 1, 0), values[i]);
        }
        DUE.is("a number below all findings is none", x.told(6), 0);
        DUE.is("number 0 is left", x.write(2, 0, 1), 0);
        DUE.is("write(4, 0, 0)", x.write(4, 0, 0), Due.BEYOND);
        DUE.is("write(-1, 0, 0)", x.write(-1, 0, 0), Due.BEYOND);
        DUE.is("write(3, 99, 0)", x.write(3, 99, 0), Due.MISSING);
        DUE.is("write(0, 2, 0)", x.write(0, 2, 0), Due.BEYOND);
        DUE.is("write(0, -1, 0)", x.write(0, -1, 0), Due.BEYOND);
    }

    private static void fill(BellWaves x, int s, int... values) {
        for (int i = 0; i < values.length; i++) {
            x.write(s, i, values[i]);
        }
    }

    /** What stands in a sheet, seen by writing each number as it is due. */
    private static void askSheet(BellWaves x, int s, int... values) {
        for (int i = 0; i < values.length; i++) {
            DUE.is("number " + i + " of sheet " + s, x.write(s, i, values[i]), values[i]);
        }
    }

    private static void copy() {
        BellWaves x = new BellWaves();
        x.sheet(0, 8, 5);
        x.sheet(1, 8, 3);
        x.sheet(2, 16, 5);
        fill(x, 0, 1, 2, 3, 4, 5);
        DUE.is("copy(0, 1, 1, 0, 3)", x.copy(0, 1, 1, 0, 3), 3);
        askSheet(x, 1, 2, 3, 4);
        DUE.is("copy up in one sheet", x.copy(0, 0, 0, 1, 4), 4);
        askSheet(x, 0, 1, 1, 2, 3, 4);
        fill(x, 0, 1, 2, 3, 4, 5);
        DUE.is("copy down in one sheet", x.copy(0, 2, 0, 0, 3), 3);
        askSheet(x, 0, 3, 4, 5, 4, 5);
        DUE.is("copy of none", x.copy(0, 5, 1, 3, 0), 0);
        int max = Integer.MAX_VALUE;
        int[][] wrong = {{4, 0, 1, 0, 1}, {0, 0, 4, 0, 1}, {-1, 0, 1, 0, 1}, {0, 0, -1, 0, 1}, {0, 4, 1, 0, 2}, {0, 0, 1, 2, 2},
            {0, 6, 1, 0, 0}, {0, 0, 1, 4, 0}, {0, -1, 1, 0, 1}, {0, 0, 1, -1, 1}, {0, 0, 1, 0, -1}, {0, max, 1, 0, max},
            {0, 0, 1, max, 1}, {0, 1, 1, 1, max}, {4, 0, 3, 0, 0}};
        for (int[] w : wrong) {
            String call = "copy(" + w[0] + ", " + w[1] + ", " + w[2] + ", " + w[3] + ", " + w[4] + ")";
            DUE.is(call, x.copy(w[0], w[1], w[2], w[3], w[4]), Due.BEYOND);
        }
        DUE.is("copy(3, 0, 0, 0, 1)", x.copy(3, 0, 0, 0, 1), Due.MISSING);
        DUE.is("copy(0, -1, 3, 0, 1)", x.copy(0, -1, 3, 0, 1), Due.MISSING);
        DUE.is("copy(2, -1, 3, 0, 1)", x.copy(2, -1, 3, 0, 1), Due.MISSING);
        DUE.is("copy(0, -1, 2, 0, 1)", x.copy(0, -1, 2, 0, 1), Due.KIND);
        askSheet(x, 0, 3, 4, 5, 4, 5);
        askSheet(x, 1, 2, 3, 4);
    }

    private static void read() {
        BellWaves x = Due.row(1, 1);
        x.school(0, 0);
        for (int s = 0; s < 4; s++) {
            x.stop(0, 0, 10, s);
        }
        DUE.is("read(4, 0)", x.read(4, 0), Due.BEYOND);
        DUE.is("read(-1, 0)", x.read(-1, 0), Due.BEYOND);
        DUE.is("read(0, 99)", x.read(0, 99), Due.MISSING);
        x.sheet(0, 8, 2);
        fill(x, 0, 30, 1);
        DUE.is("routes(0)", x.routes(0), 1);
        DUE.is("read(0, 1)", x.read(0, 1), 2);
        DUE.is("of(0, 5)", x.of(0, 5), 51);
        DUE.is("fair(1, 0)", x.fair(1, 0), 30);
        DUE.is("fair(2, 0)", x.fair(2, 0), 1);
        DUE.is("routes(0) with other pupils", x.routes(0), 2);
        DUE.is("read(0, 2)", x.read(0, 2), 2);
        DUE.is("read(0, 3): the second has no stop", x.read(0, 3), Due.BEYOND);
        DUE.is("read(0, -1)", x.read(0, -1), Due.BEYOND);
        DUE.is("read(0, MAX)", x.read(0, Integer.MAX_VALUE), Due.BEYOND);
        DUE.is("read(0, MIN)", x.read(0, Integer.MIN_VALUE), Due.BEYOND);
        fill(x, 0, 5, 31);
        DUE.is("read(0, 0) of 31", x.read(0, 0), Due.BEYOND);
        fill(x, 0, 5, 0);
        DUE.is("read(0, 0) of 0", x.read(0, 0), Due.BEYOND);
        DUE.is("nothing is read in part", x.fair(0, 0), 10);
        x.sheet(1, 32, 5);
        fill(x, 1, 1, 1, 1, 1, 1);
        DUE.is("read of more than there are stops", x.read(1, 0), Due.BEYOND);
        x.sheet(1, 32, 0);
        DUE.is("read of no numbers", x.read(1, 99), 0);
        DUE.is("of(0, 5)", x.of(0, 5), 10 + 30 + 30 + 1);
    }

    private static void told() {
        BellWaves x = Due.row(3, 1);
        x.school(0, 0);
        x.school(0, 0);
        x.stop(0, 0, 1, 0);
        Due.feedText(x, "s0-6;");
        x.text();
        x.feed(0, 7);
        int[] answers = {3, 2, 2, 1, 1, 7, 0};
        for (int what = 0; what < 7; what++) {
            DUE.is("told(" + what + ")", x.told(what), answers[what]);
        }
        DUE.is("told(7)", x.told(7), Due.BEYOND);
        DUE.is("told(-1)", x.told(-1), Due.BEYOND);
        DUE.is("told(6) counts told's findings", x.told(6), 2);
        DUE.is("told(6) is none itself", x.told(6), 2);
        x.feed(0, 0);
        x.text();
        x.far(0, 9);
        x.as(0, 1);
        x.write(0, 0, 0);
        x.sheet(0, 8, -1);
        x.start(5);
        x.chain(5, 0);
        x.chain(0, 5);
        x.route(0, 0, 5);
        DUE.is("told(6)", x.told(6), 10);
        BellWaves y = new BellWaves();
        int[] got = {y.corner(), y.street(0, 0, 0), y.shut(0, true), y.far(0, 1), y.school(4, 0), y.as(0, 0), y.of(0, 0),
            y.bell(0, 0), y.wish(0, 0), y.stop(0, 0, 0, 0), y.pupils(0, 0), y.gone(0), y.terms(0, 0, 0), y.routes(0),
            y.route(0, 0, 0), y.ride(0), y.start(0), y.follows(0, 1), y.chain(0, 0), y.feed(0, 0), y.allowed(0, 0),
            y.trade(5, 0), y.take(5), y.morning(0, 0, 0), y.comes(0), y.fair(9, 0), y.sheet(0, 1, 0), y.write(0, 0, 0),
            y.copy(0, 0, 0, 0, 0), y.read(0, 0), y.told(9)};
        DUE.is("each act's findings are counted", y.told(6), got.length - 1);
    }

    public static void main(String[] args) {
        sheet();
        write();
        copy();
        read();
        told();
        DUE.end();
    }
}
