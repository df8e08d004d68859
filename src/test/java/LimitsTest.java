/** As many of all as there can be, and plans, chains and trades that are made anew behind each change. */
public final class LimitsTest {
    private static final Due DUE = new Due("LimitsTest");

    private static void askChain(BellWaves x, int bus, int... routes) {
        for (int i = 0; i < routes.length; i++) {
            DUE.is("chain(" + bus + ", " + i + ")", x.chain(bus, i), routes[i]);
        }
        DUE.is("behind the last route of bus " + bus, x.chain(bus, routes.length), -1);
    }

    private static void tenRoutesOfOneSchool() {
        BellWaves x = Due.row(1, 1);
        x.school(3, 0);
        for (int s = 0; s < 10; s++) {
            x.stop(0, 0, 30, s % 4);
        }
        DUE.is("routes(0)", x.routes(0), 10);
        DUE.is("route(0, 9, 0)", x.route(0, 9, 0), 9);
        DUE.is("route(0, 9, 1)", x.route(0, 9, 1), -1);
        DUE.is("route(0, 9, -1)", x.route(0, 9, -1), 1);
        DUE.is("route(0, 10, 0)", x.route(0, 10, 0), Due.NONE);
        DUE.is("ride(9)", x.ride(9), 1);
        DUE.is("all()", x.all(), 10);
        DUE.is("start(9)", x.start(9), 59);
        DUE.is("start(10)", x.start(10), Due.NONE);
        DUE.is("follows(0, 9)", x.follows(0, 9), 0);
        DUE.is("buses()", x.buses(), 10);
        askChain(x, 9, 9);
        DUE.is("chain(10, 0)", x.chain(10, 0), Due.NONE);
        DUE.is("aides()", x.aides(), 10);
        DUE.is("trades()", x.trades(), 1);
        DUE.is("trade(0, 0)", x.trade(0, 0), 10);
        DUE.is("trade(0, 2)", x.trade(0, 2), 3);
        DUE.is("take(0)", x.take(0), 10);
        DUE.is("morning(9, 1, 10)", x.morning(9, 1, 10), 30);
        DUE.is("comes(9)", x.comes(9), 121);
        DUE.is("comes(10)", x.comes(10), Due.NONE);
        DUE.is("gone(9)", x.gone(9), 9);
        DUE.is("gone(0)", x.gone(0), 8);
        DUE.is("routes(0)", x.routes(0), 8);
    }

    private static BellWaves tenRoutesOfFourSchools() {
        BellWaves x = Due.row(1, 1);
        int[] of = {0, 0, 0, 1, 1, 1, 2, 2, 3, 3};
        for (int s = 0; s < 4; s++) {
            x.school(0, 0);
            x.bell(s, s);
        }
        for (int s : of) {
            x.stop(s, 0, 30, 0);
        }
        return x;
    }

    private static void tenRoutesChained() {
        BellWaves x = tenRoutesOfFourSchools();
        DUE.is("all()", x.all(), 10);
        DUE.is("buses()", x.buses(), 3);
        askChain(x, 0, 0, 3, 6, 9);
        askChain(x, 1, 1, 4, 7);
        askChain(x, 2, 2, 5, 8);
        DUE.is("morning(0, 60, 0)", x.morning(0, 60, 0), 120);
        int[] comes = {120, 60, 60, 121, 80, 80, 122, 100, 120, 123};
        for (int r = 0; r < 10; r++) {
            DUE.is("comes(" + r + ")", x.comes(r), comes[r]);
        }
        for (int s = 0; s < 4; s++) {
            x.bell(s, 3 - s);
        }
        DUE.is("buses() the other way round", x.buses(), 3);
        askChain(x, 0, 7, 4, 1);
        askChain(x, 1, 8, 5, 2);
        askChain(x, 2, 9, 6, 3, 0);
        DUE.is("trades()", x.trades() > 1 ? 1 : 0, 1);
        DUE.is("trade(0, 0)", x.trade(0, 0), 3);
        DUE.is("the last trade is all at their wishes", x.trade(x.trades() - 1, 0), 10);
        DUE.is("its cost", x.trade(x.trades() - 1, 1), 0);
        DUE.is("take of it", x.take(x.trades() - 1), 10);
        DUE.is("buses()", x.buses(), 10);
    }

    private static void tenStopsOfOneRoute() {
        BellWaves x = Due.row(8, 1);
        x.school(0, 0);
        for (int s = 0; s < 10; s++) {
            x.stop(0, s < 8 ? s : 15 - s, s < 8 ? 4 : 3, 0);
        }
        int[] order = {7, 8, 6, 9, 5, 4, 3, 2, 1, 0};
        DUE.is("routes(0)", x.routes(0), 1);
        for (int k = 0; k < 10; k++) {
            DUE.is("route(0, 0, " + k + ")", x.route(0, 0, k), order[k]);
        }
        DUE.is("route(0, 0, 10)", x.route(0, 0, 10), -1);
        DUE.is("route(0, 0, -1)", x.route(0, 0, -1), 17);
        DUE.is("ride(7)", x.ride(7), 17);
        DUE.is("ride(0)", x.ride(0), 1);
        DUE.is("fair(0, 2)", x.fair(0, 2), 17);
        DUE.is("a full bus and one pupil more", x.pupils(0, 7), 4);
        DUE.is("routes(0)", x.routes(0), 2);
    }

    /** Each answer is asked ahead of a change, so that an old plan would show. */
    private static void plansMadeAnew() {
        BellWaves x = Due.row(2, 10);
        x.school(0, 0);
        x.stop(0, 1, 10, 0);
        DUE.is("length at first", x.route(0, 0, -1), 11);
        x.street(0, 1, 4);
        DUE.is("length behind street()", x.route(0, 0, -1), 5);
        DUE.is("start(0)", x.start(0), 55);
        x.shut(1, true);
        DUE.is("start(0) behind shut()", x.start(0), 49);
        x.stop(0, 0, 10, 0);
        DUE.is("length behind stop()", x.route(0, 0, -1), 12);
        x.terms(10, 60, 0);
        DUE.is("routes behind terms()", x.routes(0), 2);
        x.gone(0);
        DUE.is("routes behind gone()", x.routes(0), 1);
        x.pupils(0, 11);
        DUE.is("routes behind pupils()", x.routes(0), Due.NONE);
        x.sheet(0, 8, 1);
        x.write(0, 0, 9);
        x.read(0, 0);
        DUE.is("routes behind read()", x.routes(0), 1);
        DUE.is("all()", x.all(), 1);
        x.school(0, 1);
        x.stop(1, 1, 1, 0);
        DUE.is("all() behind school()", x.all(), 2);
    }

    private static void chainsAndTradesMadeAnew() {
        BellWaves x = Due.row(2, 1);
        x.school(0, 0);
        x.school(0, 1);
        x.stop(0, 0, 10, 0);
        x.stop(1, 1, 10, 0);
        DUE.is("buses()", x.buses(), 2);
        x.bell(0, 1);
        DUE.is("buses() behind bell()", x.buses(), 1);
        x.terms(40, 60, 20);
        DUE.is("buses() behind terms()", x.buses(), 2);
        x.terms(40, 60, 0);
        DUE.is("trade(0, 1)", x.trade(0, 1), 200);
        x.wish(1, 4);
        DUE.is("trade(0, 1) behind wish()", x.trade(0, 1), 0);
        DUE.is("take(0)", x.take(0), 1);
        DUE.is("chain(0, 0) behind take()", x.chain(0, 0), 0);
        Due.feedText(x, "s2-2;");
        DUE.is("text()", x.text(), 1);
        DUE.is("trade(0, 1) behind text()", x.trade(0, 1), 600);
        x.pupils(0, 20);
        DUE.is("trade(0, 1) behind pupils()", x.trade(0, 1), 800);
        x.text();
        DUE.is("trade(0, 1) behind an empty text()", x.trade(0, 1), 0);
        x.shut(0, true);
        x.wish(1, 3);
        DUE.is("trades() behind shut()", x.trades(), 1);
        DUE.is("buses() behind shut()", x.buses(), 2);
    }

    public static void main(String[] args) {
        tenRoutesOfOneSchool();
        tenRoutesChained();
        tenStopsOfOneRoute();
        plansMadeAnew();
        chainsAndTradesMadeAnew();
        DUE.end();
    }
}
