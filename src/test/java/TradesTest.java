/** Promises 27 to 30: cost, trades, trade, take. */
public final class TradesTest {
    private static final Due DUE = new Due("TradesTest");

    private static void askTrade(BellWaves x, int i, int... row) {
        for (int what = 0; what < row.length; what++) {
            DUE.is("trade(" + i + ", " + what + ")", x.trade(i, what), row[what]);
        }
    }

    private static void cost() {
        BellWaves x = Due.row(1, 1);
        x.school(0, 0);
        x.school(2, 0);
        DUE.is("cost() without pupils", x.cost(), 0);
        x.stop(0, 0, 7, 0);
        x.stop(0, 0, 2, 1);
        x.stop(1, 0, 5, 2);
        DUE.is("cost()", x.cost(), 20 * 9 * 3 + 20 * 5 * 3);
        x.bell(0, 6);
        DUE.is("a bell behind the wish costs as much", x.cost(), 20 * 9 * 3 + 20 * 5 * 3);
        x.wish(0, 6);
        x.wish(1, 1);
        DUE.is("cost() by the wishes", x.cost(), 20 * 5);
        x.pupils(2, 30);
        DUE.is("cost() by the pupils", x.cost(), 20 * 30);
        x.terms(1, 1, 0);
        DUE.is("cost() asks for no plan", x.cost(), 20 * 30);
        DUE.is("told(6)", x.told(6), 0);
    }

    private static void findings() {
        BellWaves x = new BellWaves();
        DUE.is("trades() without schools", x.trades(), 1);
        askTrade(x, 0, 0, 0);
        DUE.is("take(0) without schools", x.take(0), 0);
        x.corner();
        x.school(1, 0);
        x.stop(0, 0, 4, 0);
        DUE.is("trades()", x.trades(), 1);
        askTrade(x, 0, 1, 0, 3);
        DUE.is("trade(-1, 0)", x.trade(-1, 0), Due.BEYOND);
        DUE.is("trade(0, -1)", x.trade(0, -1), Due.BEYOND);
        DUE.is("trade(0, 3)", x.trade(0, 3), Due.BEYOND);
        DUE.is("trade(0, MAX)", x.trade(0, Integer.MAX_VALUE), Due.BEYOND);
        DUE.is("trade(9, 3)", x.trade(9, 3), Due.BEYOND);
        DUE.is("trade(1, 0)", x.trade(1, 0), Due.NONE);
        DUE.is("take(-1)", x.take(-1), Due.BEYOND);
        DUE.is("take(1)", x.take(1), Due.NONE);
        DUE.is("of(0, 2)", x.of(0, 2), 0);
        x.terms(3, 60, 0);
        DUE.is("trades() without a plan", x.trades(), Due.NONE);
        DUE.is("trade(0, 0) without a plan", x.trade(0, 0), Due.NONE);
        DUE.is("take(0) without a plan", x.take(0), Due.NONE);
        x.terms(4, 60, 0);
        Due.feedText(x, "l0-2;x4-4;");
        DUE.is("text()", x.text(), 2);
        DUE.is("trades() by rules", x.trades(), 1);
        askTrade(x, 0, 1, 80, 2);
        x.school(3, 0);
        DUE.is("trades() where the special school has no bell", x.trades(), Due.NONE);
        DUE.is("trade(0, 0)", x.trade(0, 0), Due.NONE);
        DUE.is("take(0)", x.take(0), Due.NONE);
        DUE.is("bells are left", x.of(0, 2), 0);
    }

    /** A school without pupils costs nothing at any bell: the lesser bell counts. */
    private static void firstOfEquals() {
        BellWaves x = Due.row(1, 1);
        x.school(0, 0);
        x.school(0, 0);
        x.stop(1, 0, 10, 0);
        DUE.is("trades()", x.trades(), 1);
        askTrade(x, 0, 1, 0, 0, 3);
        BellWaves y = Due.row(1, 1);
        y.school(0, 0);
        y.school(0, 0);
        y.stop(0, 0, 10, 0);
        y.stop(1, 0, 10, 0);
        DUE.is("trades()", y.trades(), 2);
        askTrade(y, 0, 1, 200, 2, 3);
        askTrade(y, 1, 2, 0, 3, 3);
        y.bell(0, 5);
        y.bell(1, 5);
        askTrade(y, 0, 1, 200, 2, 3);
        DUE.is("take(1)", y.take(1), 2);
        DUE.is("of(0, 2)", y.of(0, 2), 3);
        DUE.is("of(1, 2)", y.of(1, 2), 3);
        DUE.is("buses()", y.buses(), 2);
        DUE.is("take(0)", y.take(0), 1);
        DUE.is("buses()", y.buses(), 1);
        DUE.is("chain(0, 0)", y.chain(0, 0), 0);
        y.wish(1, 2);
        askTrade(y, 0, 1, 0, 3, 2);
        DUE.is("trades() when the wishes already differ", y.trades(), 1);
        y.terms(40, 60, 20);
        askTrade(y, 0, 1, 200, 3, 1);
        DUE.is("trades() with slack", y.trades(), 2);
    }

    /** Three schools, the third with many pupils: one, two and three buses all have their price. */
    private static void three() {
        BellWaves x = Due.row(1, 1);
        for (int s = 0; s < 3; s++) {
            x.school(0, 0);
            x.stop(s, 0, 5 * (s + 1), 0);
        }
        DUE.is("trades()", x.trades(), 3);
        askTrade(x, 0, 1, 100 + 200, 2, 4, 3);
        askTrade(x, 1, 2, 100, 2, 3, 3);
        askTrade(x, 2, 3, 0, 3, 3, 3);
        DUE.is("trade(3, 0)", x.trade(3, 0), Due.NONE);
        x.pupils(0, 30);
        DUE.is("a trade behind other pupils", x.trade(0, 1), 200 + 300);
    }

    public static void main(String[] args) {
        cost();
        findings();
        firstOfEquals();
        three();
        DUE.end();
    }
}
