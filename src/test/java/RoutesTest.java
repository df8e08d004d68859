/** Promises 15 to 19: routes, route, ride, all, start. */
public final class RoutesTest {
    private static final Due DUE = new Due("RoutesTest");

    private static void askRoute(BellWaves x, int school, int i, int length, int... stops) {
        DUE.is("route(" + school + ", " + i + ", -1)", x.route(school, i, -1), length);
        for (int k = 0; k < stops.length; k++) {
            DUE.is("route(" + school + ", " + i + ", " + k + ")", x.route(school, i, k), stops[k]);
        }
        DUE.is("behind the last stop of route " + i, x.route(school, i, stops.length), -1);
        DUE.is("far behind the last stop", x.route(school, i, Integer.MAX_VALUE), -1);
    }

    private static void findings() {
        BellWaves x = Due.row(2, 3);
        DUE.is("routes without schools", x.routes(0), Due.BEYOND);
        x.school(0, 0);
        DUE.is("routes(0) without stops", x.routes(0), 0);
        DUE.is("route(0, 0, 0) without stops", x.route(0, 0, 0), Due.NONE);
        x.stop(0, 1, 5, 0);
        DUE.is("routes(1)", x.routes(1), Due.BEYOND);
        DUE.is("routes(-1)", x.routes(-1), Due.BEYOND);
        DUE.is("route(1, 0, 0)", x.route(1, 0, 0), Due.BEYOND);
        DUE.is("route(0, -1, 0)", x.route(0, -1, 0), Due.BEYOND);
        DUE.is("route(0, 0, -2)", x.route(0, 0, -2), Due.BEYOND);
        DUE.is("route(0, 1, 0)", x.route(0, 1, 0), Due.NONE);
        DUE.is("route(0, 1, -1)", x.route(0, 1, -1), Due.NONE);
        askRoute(x, 0, 0, 4, 0);
        int findings = x.told(6);
        x.route(0, 0, 1);
        DUE.is("-1 is no finding", x.told(6), findings);
        DUE.is("ride(1)", x.ride(1), Due.BEYOND);
        DUE.is("ride(-1)", x.ride(-1), Due.BEYOND);
        DUE.is("start(-1)", x.start(-1), Due.BEYOND);
        DUE.is("start(1)", x.start(1), Due.NONE);
        DUE.is("start(0)", x.start(0), 56);
        x.shut(0, true);
        DUE.is("routes(0) without a way", x.routes(0), Due.NONE);
        DUE.is("route(0, 0, 0) without a way", x.route(0, 0, 0), Due.NONE);
        DUE.is("ride(0) without a way", x.ride(0), Due.NONE);
        DUE.is("all() without a way", x.all(), Due.NONE);
        DUE.is("start(0) without a way", x.start(0), Due.NONE);
        x.school(1, 0);
        x.stop(1, 0, 3, 0);
        DUE.is("another school has its plan all the same", x.routes(1), 1);
        DUE.is("ride(1) all the same", x.ride(1), 1);
        DUE.is("all() of both", x.all(), Due.NONE);
    }

    /** Of the orders of a set the least length counts, of several the lesser stop where they differ. */
    private static void orders() {
        BellWaves x = Due.row(4, 5);
        x.school(0, 0);
        x.stop(0, 1, 1, 0);
        x.stop(0, 3, 1, 0);
        x.stop(0, 2, 1, 0);
        DUE.is("routes(0)", x.routes(0), 1);
        askRoute(x, 0, 0, 18, 1, 2, 0);
        DUE.is("ride(1)", x.ride(1), 18);
        DUE.is("ride(2)", x.ride(2), 12);
        DUE.is("ride(0)", x.ride(0), 6);
        BellWaves y = Due.row(2, 5);
        y.school(0, 0);
        for (int s = 0; s < 10; s++) {
            y.stop(0, 1, 1, 0);
        }
        askRoute(y, 0, 0, 15, 0, 1, 2, 3, 4, 5, 6, 7, 8, 9);
        DUE.is("ride(9)", y.ride(9), 6);
        BellWaves z = Due.row(3, 5);
        z.school(0, 1);
        z.stop(0, 2, 1, 0);
        z.stop(0, 0, 1, 0);
        askRoute(z, 0, 0, 17, 0, 1);
    }

    /** The fewest routes count ahead of the least lengths, and lengths ahead of the sets' bits. */
    private static void partings() {
        BellWaves x = Due.row(5, 6);
        x.school(0, 2);
        x.stop(0, 0, 10, 0);
        x.stop(0, 4, 10, 0);
        x.stop(0, 1, 10, 0);
        x.stop(0, 3, 10, 0);
        DUE.is("one route though two are shorter together", x.routes(0), 1);
        x.terms(20, 60, 0);
        DUE.is("routes(0) with 20 seats", x.routes(0), 2);
        askRoute(x, 0, 0, 14, 0, 2);
        askRoute(x, 0, 1, 14, 1, 3);
        BellWaves y = Due.row(1, 1);
        y.school(0, 0);
        for (int s = 0; s < 4; s++) {
            y.stop(0, 0, 10, 0);
        }
        y.terms(20, 60, 0);
        askRoute(y, 0, 0, 2, 0, 1);
        askRoute(y, 0, 1, 2, 2, 3);
        y.terms(30, 60, 0);
        DUE.is("the first route has the least set, not the most stops", y.route(0, 0, 1), -1);
        askRoute(y, 0, 1, 3, 1, 2, 3);
    }

    /** Bits are compared as one number: {0, 3} with 9 is above {0, 1, 2} with 7. */
    private static void bits() {
        BellWaves x = Due.row(1, 1);
        x.school(0, 0);
        x.stop(0, 0, 20, 0);
        x.stop(0, 0, 10, 0);
        x.stop(0, 0, 10, 0);
        x.stop(0, 0, 20, 0);
        x.stop(0, 0, 20, 0);
        DUE.is("routes(0)", x.routes(0), 2);
        askRoute(x, 0, 0, 3, 0, 1, 2);
        askRoute(x, 0, 1, 2, 3, 4);
        x.pupils(1, 20);
        DUE.is("routes(0) with 90 pupils", x.routes(0), 3);
        DUE.is("the first route is stop 0 alone", x.route(0, 0, 1), -1);
        askRoute(x, 0, 1, 2, 1, 2);
    }

    private static void special() {
        BellWaves x = Due.row(2, 10);
        x.school(3, 0);
        x.stop(0, 1, 1, 0);
        x.terms(40, 22, 0);
        DUE.is("11 minutes are half of 22", x.routes(0), 1);
        x.terms(40, 23, 0);
        DUE.is("11 minutes are half of 23, cut", x.routes(0), 1);
        x.terms(40, 21, 0);
        DUE.is("11 minutes are above half of 21", x.routes(0), Due.NONE);
    }

    private static void numbered() {
        BellWaves x = Due.row(3, 2);
        x.school(0, 0);
        x.school(1, 1);
        x.school(2, 2);
        x.stop(2, 0, 30, 0);
        x.stop(0, 1, 30, 0);
        x.stop(0, 2, 30, 0);
        x.bell(0, 1);
        x.bell(2, 6);
        DUE.is("all()", x.all(), 3);
        DUE.is("start(0)", x.start(0), 77);
        DUE.is("start(1)", x.start(1), 75);
        DUE.is("start(2)", x.start(2), 175);
        DUE.is("start(3)", x.start(3), Due.NONE);
        BellWaves y = Due.row(5, 20);
        y.school(0, 0);
        y.stop(0, 4, 1, 0);
        y.terms(40, 81, 0);
        DUE.is("a start below 0", y.start(0), -21);
        y.school(0, 1);
        DUE.is("a school without stops has a plan", y.all(), 1);
    }

    public static void main(String[] args) {
        findings();
        orders();
        partings();
        bits();
        special();
        numbered();
        DUE.end();
    }
}
