/** Promises 20 to 23: follows, buses, chain, aides. */
public final class ChainsTest {
    private static final Due DUE = new Due("ChainsTest");

    private static void askChain(BellWaves x, int bus, int... routes) {
        for (int i = 0; i < routes.length; i++) {
            DUE.is("chain(" + bus + ", " + i + ")", x.chain(bus, i), routes[i]);
        }
        DUE.is("behind the last route of bus " + bus, x.chain(bus, routes.length), -1);
        DUE.is("far behind the last route", x.chain(bus, Integer.MAX_VALUE), -1);
    }

    /** Two schools at both ends of a street of 9 minutes, each with a stop beside it. */
    private static BellWaves two() {
        BellWaves x = Due.row(2, 9);
        x.school(0, 0);
        x.school(3, 1);
        x.stop(0, 0, 5, 0);
        x.stop(1, 1, 6, 0);
        return x;
    }

    private static void follows() {
        BellWaves x = two();
        DUE.is("follows(0, 1) at the same bell", x.follows(0, 1), 0);
        x.bell(1, 1);
        DUE.is("follows(0, 1): 60 + 9 is not above 79", x.follows(0, 1), 1);
        DUE.is("follows(1, 0)", x.follows(1, 0), 0);
        x.terms(40, 60, 10);
        DUE.is("follows(0, 1): 60 + 9 + 10 is not above 79", x.follows(0, 1), 1);
        x.terms(40, 60, 11);
        DUE.is("follows(0, 1): 60 + 9 + 11 is above 79", x.follows(0, 1), 0);
        DUE.is("follows(-1, 0)", x.follows(-1, 0), Due.BEYOND);
        DUE.is("follows(0, -1)", x.follows(0, -1), Due.BEYOND);
        DUE.is("follows(1, 1)", x.follows(1, 1), Due.BEYOND);
        DUE.is("follows(7, 7)", x.follows(7, 7), Due.BEYOND);
        DUE.is("follows(0, 2)", x.follows(0, 2), Due.NONE);
        DUE.is("follows(2, 0)", x.follows(2, 0), Due.NONE);
        x.terms(40, 60, 0);
        x.shut(0, true);
        x.bell(1, 6);
        DUE.is("follows(0, 1) without a way", x.follows(0, 1), 0);
        DUE.is("buses() without a way between", x.buses(), 2);
    }

    private static void findings() {
        BellWaves x = two();
        DUE.is("buses()", x.buses(), 2);
        DUE.is("chain(-1, 0)", x.chain(-1, 0), Due.BEYOND);
        DUE.is("chain(0, -1)", x.chain(0, -1), Due.BEYOND);
        DUE.is("chain(2, 0)", x.chain(2, 0), Due.NONE);
        askChain(x, 0, 0);
        askChain(x, 1, 1);
        x.bell(0, 2);
        DUE.is("buses() when route 1 leads", x.buses(), 1);
        askChain(x, 0, 1, 0);
        DUE.is("chain(1, 0)", x.chain(1, 0), Due.NONE);
        DUE.is("aides()", x.aides(), 1);
        x.terms(5, 60, 0);
        DUE.is("follows(0, 1) without a plan", x.follows(0, 1), Due.NONE);
        DUE.is("buses() without a plan", x.buses(), Due.NONE);
        DUE.is("chain(0, 0) without a plan", x.chain(0, 0), Due.NONE);
        DUE.is("chain(-1, 0) without a plan", x.chain(-1, 0), Due.BEYOND);
        DUE.is("aides() without a plan", x.aides(), Due.NONE);
        BellWaves y = new BellWaves();
        DUE.is("chain(0, 0) of a new object", y.chain(0, 0), Due.NONE);
        DUE.is("buses() of a new object", y.buses(), 0);
    }

    /** Four schools at one corner: whom route 0 is followed by is settled first, then route 1, and so on. */
    private static void order() {
        BellWaves x = Due.row(1, 1);
        for (int s = 0; s < 4; s++) {
            x.school(s == 2 ? 3 : 0, 0);
            x.stop(s, 0, 1, 0);
        }
        x.bell(0, 0);
        x.bell(1, 0);
        x.bell(2, 1);
        x.bell(3, 1);
        DUE.is("buses()", x.buses(), 2);
        askChain(x, 0, 0, 2);
        askChain(x, 1, 1, 3);
        DUE.is("aides()", x.aides(), 1);
        x.bell(1, 1);
        x.bell(2, 2);
        x.bell(3, 3);
        DUE.is("buses() of a full row", x.buses(), 1);
        askChain(x, 0, 0, 1, 2, 3);
        x.bell(0, 3);
        x.bell(1, 2);
        x.bell(2, 1);
        x.bell(3, 0);
        DUE.is("buses() the other way round", x.buses(), 1);
        askChain(x, 0, 3, 2, 1, 0);
        x.bell(0, 1);
        x.bell(1, 0);
        x.bell(2, 2);
        x.bell(3, 1);
        DUE.is("buses()", x.buses(), 2);
        askChain(x, 0, 1, 0, 2);
        askChain(x, 1, 3);
    }

    /** The least follower of route 0 would take the only one that route 1 can have. */
    private static void fewestFirst() {
        BellWaves x = Due.row(3, 15);
        x.school(0, 1);
        x.school(0, 0);
        x.school(0, 1);
        x.school(0, 2);
        x.stop(0, 1, 1, 0);
        x.stop(1, 0, 1, 0);
        x.stop(2, 1, 1, 0);
        x.stop(3, 2, 1, 0);
        x.bell(2, 1);
        x.bell(3, 1);
        DUE.is("follows(0, 2)", x.follows(0, 2), 1);
        DUE.is("follows(0, 3)", x.follows(0, 3), 1);
        DUE.is("follows(1, 2)", x.follows(1, 2), 1);
        DUE.is("follows(1, 3)", x.follows(1, 3), 0);
        DUE.is("buses()", x.buses(), 2);
        askChain(x, 0, 0, 3);
        askChain(x, 1, 1, 2);
    }

    private static void aides() {
        BellWaves x = Due.row(1, 1);
        x.school(3, 0);
        x.school(1, 0);
        x.stop(0, 0, 30, 0);
        x.stop(0, 0, 30, 0);
        x.stop(1, 0, 30, 0);
        DUE.is("aides() of two routes at one bell", x.aides(), 2);
        DUE.is("buses()", x.buses(), 3);
        x.bell(1, 1);
        DUE.is("buses() of which one drives on", x.buses(), 2);
        DUE.is("aides()", x.aides(), 2);
        x.gone(0);
        x.gone(0);
        DUE.is("aides() without special stops", x.aides(), 0);
        DUE.is("buses()", x.buses(), 1);
    }

    public static void main(String[] args) {
        follows();
        findings();
        order();
        fewestFirst();
        aides();
        DUE.end();
    }
}
