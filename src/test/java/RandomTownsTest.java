import java.util.Random;

/** Whole towns with many routes by chance, from fixed seeds: all that can be asked of each is held against Model. */
public final class RandomTownsTest {
    private static final int TOWNS = 250;
    /** The most that bells and chains ask in a round, and trades and the chains behind them at the end. */
    private static final int ROUND = 93;
    private static final int LAST = 148;

    private final Random chance;
    private final BellWaves x = new BellWaves();
    private final Model m = new Model();
    private final Due due;
    private final int town;
    private int asked;

    private RandomTownsTest(int town, Due due) {
        this.town = town;
        this.due = due;
        chance = new Random(town * 104729L + 5);
    }

    private int same(String call, int got, int want) {
        asked++;
        due.is("town " + town + ": " + call, got, want);
        return got;
    }

    private int upTo(int most) {
        return 1 + chance.nextInt(most);
    }

    private void build() {
        int corners = 2 + chance.nextInt(7);
        int minutes = upTo(8);
        for (int c = 0; c < corners; c++) {
            same("corner", x.corner(), m.corner());
            if (c > 0) addStreet(c, chance.nextInt(c), upTo(minutes));
        }
        for (int i = chance.nextInt(5); i > 0; i--) {
            int a = chance.nextInt(corners);
            addStreet(a, (a + upTo(corners - 1)) % corners, upTo(minutes));
        }
        int schools = upTo(4);
        for (int s = 0; s < schools; s++) {
            int kind = chance.nextInt(4);
            int c = chance.nextInt(corners);
            same("school", x.school(kind, c), m.school(kind, c));
        }
        int stops = 4 + chance.nextInt(7);
        int[] of = new int[schools];
        int most = upTo(30);
        for (int i = 0; i < stops; i++) {
            int s = chance.nextInt(schools);
            // Model tries all orders out: eight stops of a school are as many as it can in good time.
            if (of[s] == 8) continue;
            of[s]++;
            int c = chance.nextInt(corners);
            int p = upTo(most);
            int q = chance.nextInt(4);
            same("stop", x.stop(s, c, p, q), m.stop(s, c, p, q));
        }
        int seats = Math.min(60, most + chance.nextInt(2 * most));
        int ride = chance.nextInt(3) == 0 ? 20 + chance.nextInt(40) : 90;
        int slack = chance.nextBoolean() ? 0 : chance.nextInt(12);
        same("terms", x.terms(seats, ride, slack), m.terms(seats, ride, slack));
    }

    private void addStreet(int a, int b, int minutes) {
        same("street(" + a + ", " + b + ", " + minutes + ")", x.street(a, b, minutes), m.street(a, b, minutes));
    }

    private void ringAll() {
        for (int s = 0; s < m.told(2); s++) {
            int b = chance.nextInt(7);
            int w = chance.nextInt(7);
            same("bell", x.bell(s, b), m.bell(s, b));
            same("wish", x.wish(s, w), m.wish(s, w));
        }
    }

    private void askPlans() {
        for (int s = 0; s < m.told(2); s++) {
            same("routes(" + s + ")", x.routes(s), m.routes(s));
            for (int r = 0; r < 4; r++) {
                for (int k = -1; k < 5; k++) {
                    same("route(" + s + ", " + r + ", " + k + ")", x.route(s, r, k), m.route(s, r, k));
                }
            }
        }
        for (int s = 0; s < m.told(3); s++) same("ride(" + s + ")", x.ride(s), m.ride(s));
        for (int q = 0; q < 4; q++) {
            for (int what = 0; what < 4; what++) same("fair(" + q + ", " + what + ")", x.fair(q, what), m.fair(q, what));
        }
    }

    private void askChains() {
        int all = Math.max(0, same("all()", x.all(), m.all()));
        int buses = Math.max(0, same("buses()", x.buses(), m.buses()));
        same("aides()", x.aides(), m.aides());
        for (int a = 0; a < all; a++) {
            same("start(" + a + ")", x.start(a), m.start(a));
            int b = chance.nextInt(all);
            same("follows(" + a + ", " + b + ")", x.follows(a, b), m.follows(a, b));
        }
        for (int bus = 0; bus < buses; bus++) {
            for (int i = 0; i < 5; i++) same("chain(" + bus + ", " + i + ")", x.chain(bus, i), m.chain(bus, i));
        }
        int late = chance.nextInt(61);
        int snow = chance.nextInt(3) == 0 ? chance.nextInt(11) : chance.nextInt(2);
        int route = all == 0 ? 0 : chance.nextInt(all);
        same("morning(" + route + ", " + late + ", " + snow + ")", x.morning(route, late, snow), m.morning(route, late, snow));
        for (int r = 0; r <= all; r++) same("comes(" + r + ")", x.comes(r), m.comes(r));
    }

    private void askTrades() {
        same("cost()", x.cost(), m.cost());
        int trades = Math.max(0, same("trades()", x.trades(), m.trades()));
        for (int i = 0; i < trades; i++) {
            for (int what = 0; what < 2 + m.told(2); what++) {
                same("trade(" + i + ", " + what + ")", x.trade(i, what), m.trade(i, what));
            }
        }
        int i = trades == 0 ? 0 : chance.nextInt(trades);
        same("take(" + i + ")", x.take(i), m.take(i));
    }

    private void run() {
        build();
        askPlans();
        for (int round = 0; round < 3 && asked + ROUND + LAST <= Run.MOST_CALLS; round++) {
            ringAll();
            askChains();
        }
        askTrades();
        askChains();
        due.holds("town " + town + " asks few enough things", asked <= Run.MOST_CALLS);
    }

    public static void main(String[] args) {
        Due due = new Due("RandomTownsTest");
        int towns = args.length > 0 ? Integer.parseInt(args[0]) : TOWNS;
        int first = args.length > 1 ? Integer.parseInt(args[1]) : 0;
        for (int t = first; t < first + towns; t++) new RandomTownsTest(t, due).run();
        due.end();
    }
}
