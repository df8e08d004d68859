import java.util.Random;

/** Runs of calls by chance, from fixed seeds, each answer held against Model's. */
public final class RandomRunsTest {
    private static final int RUNS = 1500;
    private static final int CALLS = 150;

    private final Random chance;
    private final BellWaves x = new BellWaves();
    private final Model m = new Model();
    private final Due due;
    private final int run;
    private final int mostStops;
    private final int fewestCorners;
    private int asked;

    private RandomRunsTest(int run, Due due) {
        this.run = run;
        this.due = due;
        chance = new Random(run * 7919L + 13);
        mostStops = 3 + chance.nextInt(6);
        fewestCorners = 1 + chance.nextInt(8);
    }

    /** Mostly a number from low to high, at times one at or behind their edges. */
    private int pick(int low, int high) {
        int roll = chance.nextInt(60);
        if (roll == 0) return low - 1;
        if (roll == 1) return high + 1;
        if (roll == 2) return chance.nextBoolean() ? Integer.MAX_VALUE : Integer.MIN_VALUE;
        if (roll < 6) return roll == 3 ? high : low;
        return high < low ? low : low + chance.nextInt(high - low + 1);
    }

    private int corner() {
        return pick(0, m.told(0) - 1);
    }

    private int school() {
        return pick(0, m.told(2) - 1);
    }

    private int stop() {
        return pick(0, m.told(3) - 1);
    }

    private int route() {
        return pick(0, 2 + chance.nextInt(4));
    }

    private void same(String call, int got, int want) {
        asked++;
        due.is("run " + run + ": " + call, got, want);
    }

    private void build() {
        while (m.told(0) < fewestCorners) same("corner()", x.corner(), m.corner());
        // Most towns hang together, so that most schools have plans.
        for (int c = 1; c < fewestCorners && chance.nextInt(30) > 0; c++) {
            int other = chance.nextInt(c);
            int minutes = 1 + chance.nextInt(chance.nextBoolean() ? 4 : 12);
            same("street(" + c + ", " + other + ", " + minutes + ")", x.street(c, other, minutes), m.street(c, other, minutes));
        }
        int streets = chance.nextInt(5);
        for (int i = 0; i < streets; i++) street();
        for (int s = 0; s < 3; s++) {
            int bits = chance.nextInt(3) == 0 ? 16 : 8;
            int n = chance.nextInt(5);
            same("sheet(" + s + ", " + bits + ", " + n + ")", x.sheet(s, bits, n), m.sheet(s, bits, n));
            for (int i = 0; i < n; i++) {
                int v = pick(1, 30);
                same("write(" + s + ", " + i + ", " + v + ")", x.write(s, i, v), m.write(s, i, v));
            }
        }
        int schools = chance.nextInt(10) == 0 ? chance.nextInt(2) : 1 + chance.nextInt(4);
        for (int i = 0; i < schools; i++) {
            int kind = pick(0, 3);
            int corner = corner();
            same("school(" + kind + ", " + corner + ")", x.school(kind, corner), m.school(kind, corner));
        }
        for (int i = 0; i < mostStops; i++) addStop();
        for (int s = 0; s < m.told(2); s++) ring(s);
    }

    private void ring(int s) {
        int b = pick(0, 6);
        same("bell(" + s + ", " + b + ")", x.bell(s, b), m.bell(s, b));
    }

    private void street() {
        int a = corner();
        int b = corner();
        int minutes = chance.nextInt(3) == 0 ? pick(1, 20) : pick(1, 5);
        same("street(" + a + ", " + b + ", " + minutes + ")", x.street(a, b, minutes), m.street(a, b, minutes));
    }

    private void addStop() {
        int s = school();
        int c = corner();
        int p = chance.nextBoolean() ? pick(1, 30) : pick(1, 12);
        int q = pick(0, 3);
        // Model tries all orders out: with more stops it would take too long.
        if (m.told(3) < mostStops) {
            same("stop(" + s + ", " + c + ", " + p + ", " + q + ")", x.stop(s, c, p, q), m.stop(s, c, p, q));
        }
    }

    private void townCall() {
        int a = corner();
        int b = corner();
        switch (chance.nextInt(6)) {
            case 0: same("corner()", x.corner(), m.corner()); break;
            case 1: street(); break;
            case 2: case 3: {
                int s = pick(0, m.told(1) - 1);
                boolean is = chance.nextInt(6) == 0;
                same("shut(" + s + ", " + is + ")", x.shut(s, is), m.shut(s, is));
                break;
            }
            default: same("far(" + a + ", " + b + ")", x.far(a, b), m.far(a, b));
        }
    }

    private void schoolCall() {
        int s = school();
        int a = pick(0, 6);
        int c = corner();
        switch (chance.nextInt(10)) {
            case 0: same("school(" + a / 2 + ", " + c + ")", x.school(a / 2, c), m.school(a / 2, c)); break;
            case 1: same("as(" + s + ", " + a / 2 + ")", x.as(s, a / 2), m.as(s, a / 2)); break;
            case 2: same("of(" + s + ", " + a + ")", x.of(s, a), m.of(s, a)); break;
            case 3: case 4: same("bell(" + s + ", " + a + ")", x.bell(s, a), m.bell(s, a)); break;
            case 5: same("wish(" + s + ", " + a + ")", x.wish(s, a), m.wish(s, a)); break;
            case 6: addStop(); break;
            case 7: {
                int stop = stop();
                int v = pick(1, 30);
                same("pupils(" + stop + ", " + v + ")", x.pupils(stop, v), m.pupils(stop, v));
                break;
            }
            case 8: {
                int stop = stop();
                same("gone(" + stop + ")", x.gone(stop), m.gone(stop));
                break;
            }
            default: {
                int seats = pick(chance.nextInt(4) == 0 ? 10 : 30, 60);
                int ride = chance.nextInt(4) == 0 ? pick(1, 90) : pick(30, 90);
                int slack = chance.nextBoolean() ? 0 : pick(0, 30);
                same("terms(" + seats + ", " + ride + ", " + slack + ")", x.terms(seats, ride, slack), m.terms(seats, ride, slack));
            }
        }
    }

    private void routeCall() {
        int a = route();
        int b = route();
        int s = school();
        switch (chance.nextInt(11)) {
            case 0: same("routes(" + s + ")", x.routes(s), m.routes(s)); break;
            case 1: case 2: {
                int r = chance.nextBoolean() ? 0 : a;
                int k = pick(-1, 3);
                same("route(" + s + ", " + r + ", " + k + ")", x.route(s, r, k), m.route(s, r, k));
                break;
            }
            case 3: {
                int stop = stop();
                same("ride(" + stop + ")", x.ride(stop), m.ride(stop));
                break;
            }
            case 4: same("all()", x.all(), m.all()); break;
            case 5: same("start(" + a + ")", x.start(a), m.start(a)); break;
            case 6: same("follows(" + a + ", " + b + ")", x.follows(a, b), m.follows(a, b)); break;
            case 7: same("buses()", x.buses(), m.buses()); break;
            case 8: case 9: {
                int bus = chance.nextBoolean() ? 0 : a;
                same("chain(" + bus + ", " + b + ")", x.chain(bus, b), m.chain(bus, b));
                break;
            }
            default: same("aides()", x.aides(), m.aides());
        }
    }

    private void feedRow() {
        char[] row = {"slux".charAt(chance.nextInt(4)), 0, '-', 0, ';'};
        int low = chance.nextInt(chance.nextInt(3) == 0 ? 7 : 3);
        row[1] = (char) ('0' + low);
        row[3] = (char) ('0' + low + chance.nextInt(7 - low));
        if (chance.nextInt(25) == 0) row[chance.nextInt(5)] = (char) chance.nextInt(256);
        long w = (long) chance.nextInt() << 40;
        for (int i = 0; i < 5; i++) w |= (long) row[i] << 8 * i;
        int n = chance.nextInt(40) == 0 ? pick(1, 8) : 5;
        same("feed(" + w + ", " + n + ")", x.feed(w, n), m.feed(w, n));
    }

    private void ruleCall() {
        int i = pick(0, 2);
        int what = pick(0, 5);
        switch (chance.nextInt(9)) {
            case 0: {
                int rows = chance.nextInt(12) == 0 ? 7 + chance.nextInt(3) : chance.nextInt(3);
                for (int r = 0; r < rows; r++) feedRow();
                same("text()", x.text(), m.text());
                break;
            }
            case 1: feedRow(); break;
            case 2: {
                int s = school();
                int b = pick(0, 6);
                same("allowed(" + s + ", " + b + ")", x.allowed(s, b), m.allowed(s, b));
                break;
            }
            case 3: same("cost()", x.cost(), m.cost()); break;
            case 4: same("trades()", x.trades(), m.trades()); break;
            case 5: case 6: same("trade(" + i + ", " + what + ")", x.trade(i, what), m.trade(i, what)); break;
            case 7: same("text()", x.text(), m.text()); break;
            default: same("take(" + i + ")", x.take(i), m.take(i));
        }
    }

    private void morningCall() {
        int r = route();
        switch (chance.nextInt(4)) {
            case 0: case 1: {
                int late = chance.nextBoolean() ? pick(0, 60) : 0;
                int snow = pick(0, 10);
                String call = "morning(" + r + ", " + late + ", " + snow + ")";
                same(call, x.morning(r, late, snow), m.morning(r, late, snow));
                for (int c = 0; c < 8; c++) same(call + " comes(" + c + ")", x.comes(c), m.comes(c));
                break;
            }
            case 2: same("comes(" + r + ")", x.comes(r), m.comes(r)); break;
            default: {
                int q = pick(0, 3);
                int what = pick(0, 3);
                same("fair(" + q + ", " + what + ")", x.fair(q, what), m.fair(q, what));
            }
        }
    }

    private void sheetCall() {
        int s = pick(0, 3);
        int t = pick(0, 3);
        int i = pick(0, 6);
        int n = chance.nextInt(4) == 0 ? pick(0, 10) : pick(0, 3);
        switch (chance.nextInt(8)) {
            case 0: case 1: {
                int bits = new int[] {0, 8, 16, 32, 8, 8, 16, 7}[chance.nextInt(8)];
                same("sheet(" + s + ", " + bits + ", " + n + ")", x.sheet(s, bits, n), m.sheet(s, bits, n));
                break;
            }
            case 2: case 3: case 4: {
                int v = chance.nextInt(4) == 0 ? chance.nextInt() : pick(1, 30);
                same("write(" + s + ", " + i + ", " + v + ")", x.write(s, i, v), m.write(s, i, v));
                break;
            }
            case 5: case 6: {
                int to = pick(0, 4);
                String call = "copy(" + s + ", " + i + ", " + t + ", " + to + ", " + n + ")";
                same(call, x.copy(s, i, t, to, n), m.copy(s, i, t, to, n));
                break;
            }
            default: same("read(" + s + ", " + n + ")", x.read(s, n), m.read(s, n));
        }
    }

    private void run() {
        build();
        // A row of calls asks twelve things at most, and seven are asked at the end: nothing is promised behind 512.
        for (int c = 0; c < CALLS && asked + 19 <= Run.MOST_CALLS; c++) {
            switch (chance.nextInt(10)) {
                case 0: townCall(); break;
                case 1: case 2: schoolCall(); break;
                case 3: case 4: case 5: routeCall(); break;
                case 6: case 7: ruleCall(); break;
                case 8: morningCall(); break;
                default: sheetCall();
            }
        }
        for (int what = 0; what < 7; what++) same("told(" + what + ")", x.told(what), m.told(what));
    }

    public static void main(String[] args) {
        Due due = new Due("RandomRunsTest");
        int runs = args.length > 0 ? Integer.parseInt(args[0]) : RUNS;
        int first = args.length > 1 ? Integer.parseInt(args[1]) : 0;
        for (int run = first; run < first + runs; run++) new RandomRunsTest(run, due).run();
        due.end();
    }
}
