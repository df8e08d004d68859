import java.util.Arrays;

/** A keeper of bells and buses; README.md tells how it is used and how it is built. */
public final class BellWaves {
    private static final int BEYOND = -1000001;
    private static final int FULL = -1000002;
    private static final int KIND = -1000003;
    private static final int NONE = -1000004;
    private static final int MISSING = -1000005;
    private static final int SIZE = -1000006;
    private static final int WRONG = -1000100;

    private static final int MOST_CORNERS = 8;
    private static final int MOST_STREETS = 14;
    private static final int MOST_SCHOOLS = 4;
    private static final int MOST_STOPS = 10;
    private static final int MOST_RULES = 8;
    private static final int MOST_NUMBERS = 10;
    private static final int SHEETS = 4;
    private static final int QUARTERS = 4;
    private static final int KINDS = 4;
    private static final int SPECIAL = 3;
    private static final int BELLS = 7;
    private static final int BELL_MINUTES = 20;
    private static final int FIRST_BELL = 60;
    private static final int MOST_PUPILS = 30;
    private static final int TAPE = 60;

    /** Above every sum of minutes that a way can have, and low enough that a dozen of them don't overflow. */
    private static final int NO_WAY = 1000000;

    /** The kind that each kind stands under. */
    private static final int[] UNDER = {-1, 0, 0, 1};

    private final District district;
    private final Fleet fleet;
    private final Rules rules;
    private final Market market;
    private final Morning latest;
    private final Sheet[] sheets;
    private Planner planner;
    private boolean plansStand;
    private boolean chainsStand;
    private boolean tradesStand;
    private int findings;

    public BellWaves() {
        district = new District();
        fleet = new Fleet();
        rules = new Rules();
        market = new Market();
        latest = new Morning();
        sheets = new Sheet[SHEETS];
        for (int s = 0; s < SHEETS; s++) {
            sheets[s] = new Sheet();
        }
    }

    // ---- the town

    public int corner() {
        if (district.town.corners >= MOST_CORNERS) {
            return found(FULL);
        }
        return district.town.addCorner();
    }

    public int street(int a, int b, int minutes) {
        if (!district.town.hasCorner(a) || !district.town.hasCorner(b) || a == b || !within(minutes, 1, 20)) {
            return found(BEYOND);
        }
        if (district.town.streets >= MOST_STREETS) {
            return found(FULL);
        }
        plansFall();
        return district.town.addStreet(a, b, minutes);
    }

    public int shut(int street, boolean is) {
        if (!within(street, 0, district.town.streets - 1)) {
            return found(BEYOND);
        }
        if (!district.town.close(street, is)) {
            return 0;
        }
        plansFall();
        return 1;
    }

    public int far(int a, int b) {
        if (!district.town.hasCorner(a) || !district.town.hasCorner(b)) {
            return found(BEYOND);
        }
        int minutes = district.town.table()[a][b];
        return minutes >= NO_WAY ? found(NONE) : minutes;
    }

    // ---- schools and stops

    public int school(int kind, int corner) {
        if (!within(kind, 0, KINDS - 1) || !district.town.hasCorner(corner)) {
            return found(BEYOND);
        }
        if (district.schoolCount >= MOST_SCHOOLS) {
            return found(FULL);
        }
        plansFall();
        return district.addSchool(kind, corner);
    }

    public int as(int school, int kind) {
        if (!district.hasSchool(school) || !within(kind, 0, KINDS - 1)) {
            return found(BEYOND);
        }
        return isUnder(district.schools[school].kind, kind) ? school : found(KIND);
    }

    public int of(int school, int what) {
        if (!district.hasSchool(school)) {
            return found(BEYOND);
        }
        switch (what) {
            case 0: return district.schools[school].kind;
            case 1: return district.schools[school].corner;
            case 2: return district.bells[school];
            case 3: return district.schools[school].wish;
            case 4: return district.stopsOf(school);
            case 5: return district.pupilsOf(school);
            case 6: return district.longest(school);
            default: return found(BEYOND);
        }
    }

    public int bell(int school, int b) {
        if (!district.hasSchool(school) || !within(b, 0, BELLS - 1)) {
            return found(BEYOND);
        }
        int was = district.bells[school];
        district.bells[school] = b;
        chainsStand = false;
        return was;
    }

    public int wish(int school, int b) {
        if (!district.hasSchool(school) || !within(b, 0, BELLS - 1)) {
            return found(BEYOND);
        }
        int was = district.schools[school].wish;
        district.schools[school].wish = b;
        tradesStand = false;
        return was;
    }

    public int stop(int school, int corner, int pupils, int quarter) {
        if (!district.hasSchool(school) || !district.town.hasCorner(corner)
                || !within(pupils, 1, MOST_PUPILS) || !within(quarter, 0, QUARTERS - 1)) {
            return found(BEYOND);
        }
        if (district.stopCount >= MOST_STOPS) {
            return found(FULL);
        }
        plansFall();
        return district.addStop(school, corner, pupils, quarter);
    }

    public int pupils(int stop, int v) {
        if (!district.hasStop(stop) || !within(v, 1, MOST_PUPILS)) {
            return found(BEYOND);
        }
        int was = district.stops[stop].pupils;
        district.stops[stop].pupils = v;
        plansFall();
        return was;
    }

    public int gone(int stop) {
        if (!district.hasStop(stop)) {
            return found(BEYOND);
        }
        plansFall();
        district.removeStop(stop);
        return district.stopCount;
    }

    public int terms(int seats, int ride, int slack) {
        if (!within(seats, 1, 60) || !within(ride, 1, 90) || !within(slack, 0, 30)) {
            return found(BEYOND);
        }
        plansFall();
        district.seats = seats;
        district.ride = ride;
        district.slack = slack;
        return 1;
    }

    // ---- routes

    public int routes(int school) {
        if (!district.hasSchool(school)) {
            return found(BEYOND);
        }
        drawPlans();
        School at = district.schools[school];
        return at.hasPlan ? at.routeCount : found(NONE);
    }

    public int route(int school, int i, int k) {
        if (!district.hasSchool(school) || i < 0 || k < -1) {
            return found(BEYOND);
        }
        drawPlans();
        School at = district.schools[school];
        if (!at.hasPlan || i >= at.routeCount) {
            return found(NONE);
        }
        if (k == -1) {
            return at.length[i];
        }
        return k < at.stopsIn(i) ? at.order[at.begin[i] + k] : -1;
    }

    public int ride(int stop) {
        if (!district.hasStop(stop)) {
            return found(BEYOND);
        }
        drawPlans();
        if (!district.schools[district.stops[stop].school].hasPlan) {
            return found(NONE);
        }
        return district.rideOf(stop);
    }

    public int all() {
        drawPlans();
        return fleet.stands ? fleet.count : found(NONE);
    }

    public int start(int route) {
        if (route < 0) {
            return found(BEYOND);
        }
        drawPlans();
        return fleet.has(route) ? fleet.startOf(district, route) : found(NONE);
    }

    public int follows(int a, int b) {
        if (a < 0 || b < 0 || a == b) {
            return found(BEYOND);
        }
        drawPlans();
        if (!fleet.has(a) || !fleet.has(b)) {
            return found(NONE);
        }
        return fleet.canFollow(district.bells, a, b) ? 1 : 0;
    }

    public int buses() {
        return linkChains() ? fleet.busCount() : found(NONE);
    }

    public int chain(int bus, int i) {
        if (bus < 0 || i < 0) {
            return found(BEYOND);
        }
        if (!linkChains() || bus >= fleet.busCount()) {
            return found(NONE);
        }
        return fleet.driven(bus, i);
    }

    public int aides() {
        return linkChains() ? fleet.specialBuses(district) : found(NONE);
    }

    // ---- rules and trades

    public int feed(long w, int n) {
        if (!within(n, 1, 8)) {
            return found(BEYOND);
        }
        if (rules.tapeLength + n > TAPE) {
            return found(FULL);
        }
        return rules.lengthen(w, n);
    }

    public int text() {
        int place = rules.firstWrong();
        if (place < 0) {
            rules.adopt();
            tradesStand = false;
        }
        rules.tapeLength = 0;
        return place < 0 ? rules.count : found(WRONG - place);
    }

    public int allowed(int school, int b) {
        if (!district.hasSchool(school) || !within(b, 0, BELLS - 1)) {
            return found(BEYOND);
        }
        return rules.permit(district.schools[school].kind, b) ? 1 : 0;
    }

    public int cost() {
        int sum = 0;
        for (int s = 0; s < district.schoolCount; s++) {
            sum += district.costOf(s, district.bells[s]);
        }
        return sum;
    }

    public int trades() {
        return weighTrades() ? market.count : found(NONE);
    }

    public int trade(int i, int what) {
        if (i < 0 || what < 0 || what >= 2 + district.schoolCount) {
            return found(BEYOND);
        }
        if (!weighTrades() || i >= market.count) {
            return found(NONE);
        }
        switch (what) {
            case 0: return market.busesIn(i);
            case 1: return market.costIn(i);
            default: return market.bellsIn(i)[what - 2];
        }
    }

    public int take(int i) {
        if (i < 0) {
            return found(BEYOND);
        }
        if (!weighTrades() || i >= market.count) {
            return found(NONE);
        }
        System.arraycopy(market.bellsIn(i), 0, district.bells, 0, district.schoolCount);
        chainsStand = false;
        return market.busesIn(i);
    }

    // ---- mornings, quarters

    public int morning(int route, int late, int snow) {
        if (route < 0 || !within(late, 0, 60) || !within(snow, 0, 10)) {
            return found(BEYOND);
        }
        if (!linkChains() || !fleet.has(route)) {
            return found(NONE);
        }
        return latest.drive(district, fleet, route, late, snow);
    }

    public int comes(int route) {
        if (route < 0) {
            return found(BEYOND);
        }
        return route < latest.count ? latest.minute[route] : found(NONE);
    }

    public int fair(int quarter, int what) {
        if (!within(quarter, 0, QUARTERS - 1) || !within(what, 0, 3)) {
            return found(BEYOND);
        }
        if (what == 1 || what == 2) {
            drawPlans();
            if (!fleet.stands) {
                return found(NONE);
            }
        }
        switch (what) {
            case 0: return district.pupilsFrom(quarter);
            case 1: return district.ridesFrom(quarter);
            case 2: return district.greatestRide(quarter);
            default: return district.earlyFrom(quarter);
        }
    }

    // ---- sheets

    public int sheet(int s, int bits, int n) {
        if (!within(s, 0, SHEETS - 1) || (bits != 0 && bits != 8 && bits != 16 && bits != 32)) {
            return found(BEYOND);
        }
        if (n < 0) {
            return found(SIZE);
        }
        if (n > MOST_NUMBERS) {
            return found(BEYOND);
        }
        return sheets[s].lay(bits, n);
    }

    public int write(int s, int i, int v) {
        if (!within(s, 0, SHEETS - 1)) {
            return found(BEYOND);
        }
        Sheet sheet = sheets[s];
        if (sheet.isMissing()) {
            return found(MISSING);
        }
        if (!within(i, 0, sheet.count - 1)) {
            return found(BEYOND);
        }
        return sheet.put(i, v);
    }

    public int copy(int s, int from, int t, int to, int n) {
        if (!within(s, 0, SHEETS - 1) || !within(t, 0, SHEETS - 1)) {
            return found(BEYOND);
        }
        Sheet source = sheets[s];
        Sheet target = sheets[t];
        if (source.isMissing() || target.isMissing()) {
            return found(MISSING);
        }
        if (source.bits != target.bits) {
            return found(KIND);
        }
        if (!source.holds(from, n) || !target.holds(to, n)) {
            return found(BEYOND);
        }
        System.arraycopy(source.numbers, from, target.numbers, to, n);
        return n;
    }

    public int read(int s, int first) {
        if (!within(s, 0, SHEETS - 1)) {
            return found(BEYOND);
        }
        Sheet sheet = sheets[s];
        if (sheet.isMissing()) {
            return found(MISSING);
        }
        if (sheet.count == 0) {
            return 0;
        }
        if (!within(first, 0, district.stopCount - sheet.count) || !sheet.allWithin(1, MOST_PUPILS)) {
            return found(BEYOND);
        }
        for (int i = 0; i < sheet.count; i++) {
            district.stops[first + i].pupils = sheet.numbers[i];
        }
        plansFall();
        return sheet.count;
    }

    public int told(int what) {
        switch (what) {
            case 0: return district.town.corners;
            case 1: return district.town.streets;
            case 2: return district.schoolCount;
            case 3: return district.stopCount;
            case 4: return rules.count;
            case 5: return rules.tapeLength;
            case 6: return findings;
            default: return found(BEYOND);
        }
    }

    // ---- what stands until something changes

    /** Findings are counted here and not by their value: a number of a sheet can be below them all. */
    private int found(int finding) {
        findings++;
        return finding;
    }

    private void plansFall() {
        plansStand = false;
        chainsStand = false;
        tradesStand = false;
    }

    private void drawPlans() {
        if (plansStand) {
            return;
        }
        // The planner's rows are the bulk of all: an object that never plans doesn't hold them.
        if (planner == null) {
            planner = new Planner();
        }
        for (int s = 0; s < district.schoolCount; s++) {
            planner.draw(district, s);
        }
        fleet.gather(district);
        plansStand = true;
    }

    private boolean linkChains() {
        drawPlans();
        if (fleet.stands && !chainsStand) {
            fleet.link(district.bells);
            chainsStand = true;
        }
        return fleet.stands;
    }

    private boolean weighTrades() {
        drawPlans();
        if (!fleet.stands) {
            return false;
        }
        if (!tradesStand) {
            market.weigh(district, fleet, rules);
            tradesStand = true;
        }
        return market.count > 0;
    }

    private static boolean within(int v, int low, int high) {
        return v >= low && v <= high;
    }

    private static boolean isUnder(int kind, int above) {
        int k = kind;
        for (int step = 0; step < KINDS && k >= 0 && k != above; step++) {
            k = UNDER[k];
        }
        return k == above;
    }

    /** Corners and streets, and how far the corners are from each other. */
    private static final class Town {
        int corners;
        int streets;
        private final int[] from = new int[MOST_STREETS];
        private final int[] to = new int[MOST_STREETS];
        private final int[] minutes = new int[MOST_STREETS];
        private final boolean[] closed = new boolean[MOST_STREETS];
        private final int[][] plain = new int[MOST_CORNERS][MOST_CORNERS];
        private final int[][] snowy = new int[MOST_CORNERS][MOST_CORNERS];
        private boolean measured;

        boolean hasCorner(int c) {
            return within(c, 0, corners - 1);
        }

        int addCorner() {
            measured = false;
            corners++;
            return corners - 1;
        }

        int addStreet(int a, int b, int takes) {
            measured = false;
            from[streets] = a;
            to[streets] = b;
            minutes[streets] = takes;
            closed[streets] = false;
            streets++;
            return streets - 1;
        }

        boolean close(int street, boolean is) {
            if (closed[street] == is) {
                return false;
            }
            measured = false;
            closed[street] = is;
            return true;
        }

        int[][] table() {
            if (!measured) {
                measure(plain, 0);
                measured = true;
            }
            return plain;
        }

        int[][] tableWith(int snow) {
            measure(snowy, snow);
            return snowy;
        }

        private void measure(int[][] table, int snow) {
            for (int a = 0; a < corners; a++) {
                Arrays.fill(table[a], NO_WAY);
                table[a][a] = 0;
            }
            for (int s = 0; s < streets; s++) {
                if (!closed[s]) {
                    int least = Math.min(table[from[s]][to[s]], minutes[s] + snow);
                    table[from[s]][to[s]] = least;
                    table[to[s]][from[s]] = least;
                }
            }
            for (int over = 0; over < corners; over++) {
                for (int a = 0; a < corners; a++) {
                    for (int b = 0; b < corners; b++) {
                        table[a][b] = Math.min(table[a][b], table[a][over] + table[over][b]);
                    }
                }
            }
        }
    }

    /** A school and its plan: the stops of the plan's routes stand in one row, route behind route. */
    private static final class School {
        int kind;
        int corner;
        int wish;
        boolean hasPlan;
        int routeCount;
        final int[] begin = new int[MOST_STOPS + 1];
        final int[] order = new int[MOST_STOPS];
        final int[] length = new int[MOST_STOPS];

        int stopsIn(int i) {
            return begin[i + 1] - begin[i];
        }
    }

    private static final class Stop {
        int school;
        int corner;
        int pupils;
        int quarter;
    }

    /** All that plans, chains and trades are made from. */
    private static final class District {
        final Town town = new Town();
        final School[] schools = new School[MOST_SCHOOLS];
        final int[] bells = new int[MOST_SCHOOLS];
        final Stop[] stops = new Stop[MOST_STOPS];
        int schoolCount;
        int stopCount;
        int seats = 40;
        int ride = 60;
        int slack;

        District() {
            for (int s = 0; s < MOST_SCHOOLS; s++) {
                schools[s] = new School();
            }
            for (int s = 0; s < MOST_STOPS; s++) {
                stops[s] = new Stop();
            }
        }

        boolean hasSchool(int school) {
            return within(school, 0, schoolCount - 1);
        }

        boolean hasStop(int stop) {
            return within(stop, 0, stopCount - 1);
        }

        int addSchool(int kind, int corner) {
            School school = schools[schoolCount];
            school.kind = kind;
            school.corner = corner;
            school.wish = 3;
            bells[schoolCount] = 0;
            schoolCount++;
            return schoolCount - 1;
        }

        int addStop(int school, int corner, int pupils, int quarter) {
            Stop stop = stops[stopCount];
            stop.school = school;
            stop.corner = corner;
            stop.pupils = pupils;
            stop.quarter = quarter;
            stopCount++;
            return stopCount - 1;
        }

        void removeStop(int stop) {
            Stop removed = stops[stop];
            for (int s = stop; s + 1 < stopCount; s++) {
                stops[s] = stops[s + 1];
            }
            stopCount--;
            // The object waits behind the last stop for a new one, so that the row never holds null.
            stops[stopCount] = removed;
        }

        int rings(int school) {
            return FIRST_BELL + BELL_MINUTES * bells[school];
        }

        int longest(int school) {
            return schools[school].kind == SPECIAL ? ride / 2 : ride;
        }

        int stopsOf(int school) {
            int sum = 0;
            for (int s = 0; s < stopCount; s++) {
                if (stops[s].school == school) {
                    sum++;
                }
            }
            return sum;
        }

        int pupilsOf(int school) {
            int sum = 0;
            for (int s = 0; s < stopCount; s++) {
                if (stops[s].school == school) {
                    sum += stops[s].pupils;
                }
            }
            return sum;
        }

        int costOf(int school, int bell) {
            return BELL_MINUTES * pupilsOf(school) * Math.abs(bell - schools[school].wish);
        }

        /** Minutes of a planned route from one of the places in its plan's order to the school. */
        int minutesFrom(School at, int i, int place, int[][] table) {
            int end = at.begin[i + 1];
            int sum = 0;
            for (int p = place; p < end; p++) {
                int here = stops[at.order[p]].corner;
                int next = p + 1 < end ? stops[at.order[p + 1]].corner : at.corner;
                sum += 1 + table[here][next];
            }
            return sum;
        }

        int rideOf(int stop) {
            School at = schools[stops[stop].school];
            for (int i = 0; i < at.routeCount; i++) {
                for (int p = at.begin[i]; p < at.begin[i + 1]; p++) {
                    if (at.order[p] == stop) {
                        return minutesFrom(at, i, p, town.table());
                    }
                }
            }
            return 0;
        }

        int pupilsFrom(int quarter) {
            int sum = 0;
            for (int s = 0; s < stopCount; s++) {
                if (stops[s].quarter == quarter) {
                    sum += stops[s].pupils;
                }
            }
            return sum;
        }

        int ridesFrom(int quarter) {
            int sum = 0;
            for (int s = 0; s < stopCount; s++) {
                if (stops[s].quarter == quarter) {
                    sum += stops[s].pupils * rideOf(s);
                }
            }
            return sum;
        }

        int greatestRide(int quarter) {
            int greatest = 0;
            for (int s = 0; s < stopCount; s++) {
                if (stops[s].quarter == quarter) {
                    greatest = Math.max(greatest, rideOf(s));
                }
            }
            return greatest;
        }

        int earlyFrom(int quarter) {
            int sum = 0;
            for (int s = 0; s < stopCount; s++) {
                if (stops[s].quarter == quarter) {
                    int school = stops[s].school;
                    int ahead = Math.max(0, schools[school].wish - bells[school]);
                    sum += stops[s].pupils * BELL_MINUTES * ahead;
                }
            }
            return sum;
        }
    }

    /** Finds the plan of a school; sets of its stops are bits by their order among the school's stops. */
    private static final class Planner {
        /** One route more outweighs all minutes of all routes. */
        private static final int ROUTE = 10000;
        private static final int NO_PLAN = 1000000;

        private int count;
        private final int[] stop = new int[MOST_STOPS];
        private final int[] pupils = new int[MOST_STOPS];
        private final int[] home = new int[MOST_STOPS];
        private final int[][] between = new int[MOST_STOPS][MOST_STOPS];
        /** The least length of a route over a set that begins with one of it, at set * MOST_STOPS + that one. */
        private final int[] least = new int[(1 << MOST_STOPS) * MOST_STOPS];
        /** The least length of a route over a set; NO_WAY where the set is no route. */
        private final int[] length = new int[1 << MOST_STOPS];
        /** Routes and minutes of the best parting of a set. */
        private final int[] value = new int[1 << MOST_STOPS];
        /** The route with a set's least stop in its best parting. */
        private final int[] pick = new int[1 << MOST_STOPS];

        void draw(District district, int school) {
            collect(district, school);
            int sets = 1 << count;
            for (int set = 1; set < sets; set++) {
                length[set] = NO_WAY;
                if (load(set) <= district.seats) {
                    int minutes = shortest(set);
                    length[set] = minutes <= district.longest(school) ? minutes : NO_WAY;
                }
            }
            value[0] = 0;
            for (int set = 1; set < sets; set++) {
                part(set);
            }
            record(district.schools[school], sets - 1);
        }

        private void collect(District district, int school) {
            int[][] table = district.town.table();
            count = 0;
            for (int s = 0; s < district.stopCount; s++) {
                if (district.stops[s].school == school) {
                    stop[count] = s;
                    pupils[count] = district.stops[s].pupils;
                    count++;
                }
            }
            for (int i = 0; i < count; i++) {
                int corner = district.stops[stop[i]].corner;
                home[i] = table[corner][district.schools[school].corner];
                for (int j = 0; j < count; j++) {
                    between[i][j] = table[corner][district.stops[stop[j]].corner];
                }
            }
        }

        private int load(int set) {
            int sum = 0;
            for (int i = 0; i < count; i++) {
                if (has(set, i)) {
                    sum += pupils[i];
                }
            }
            return sum;
        }

        /** Lesser sets must have been asked first; each part of a set that fits the seats fits them too. */
        private int shortest(int set) {
            int best = NO_WAY;
            for (int i = 0; i < count; i++) {
                if (has(set, i)) {
                    int minutes = shortestFrom(set, i);
                    least[set * MOST_STOPS + i] = minutes;
                    best = Math.min(best, minutes);
                }
            }
            return best;
        }

        private int shortestFrom(int set, int first) {
            int rest = set & ~(1 << first);
            int best = rest == 0 ? home[first] : NO_WAY;
            for (int j = 0; j < count; j++) {
                if (has(rest, j)) {
                    best = Math.min(best, between[first][j] + least[rest * MOST_STOPS + j]);
                }
            }
            return Math.min(NO_WAY, 1 + best);
        }

        private void part(int set) {
            int lowest = set & -set;
            int others = set ^ lowest;
            value[set] = NO_PLAN;
            pick[set] = 0;
            // From the greatest to the least: of equals the last one found is the least set.
            for (int sub = others; sub >= 0; sub = sub == 0 ? -1 : (sub - 1) & others) {
                int route = lowest | sub;
                if (length[route] < NO_WAY) {
                    int whole = ROUTE + length[route] + value[set ^ route];
                    if (whole <= value[set]) {
                        value[set] = whole;
                        pick[set] = route;
                    }
                }
            }
        }

        private void record(School at, int full) {
            at.hasPlan = value[full] < NO_PLAN;
            at.routeCount = 0;
            at.begin[0] = 0;
            int left = at.hasPlan ? full : 0;
            for (int r = 0; r < MOST_STOPS && left != 0; r++) {
                recordRoute(at, pick[left]);
                left ^= pick[left];
            }
        }

        private void recordRoute(School school, int set) {
            int place = school.begin[school.routeCount];
            int left = set;
            int at = firstWith(left, -1, length[set]);
            while (left != 0 && at >= 0 && place < MOST_STOPS) {
                school.order[place] = stop[at];
                place++;
                int rest = left & ~(1 << at);
                at = firstWith(rest, at, least[left * MOST_STOPS + at] - 1);
                left = rest;
            }
            school.length[school.routeCount] = length[set];
            school.routeCount++;
            school.begin[school.routeCount] = place;
        }

        /** The lowest stop of a set from which the rest takes so many minutes, the way from one ahead of it counted. */
        private int firstWith(int set, int ahead, int minutes) {
            for (int j = 0; j < count; j++) {
                if (has(set, j)) {
                    int way = ahead < 0 ? 0 : between[ahead][j];
                    if (way + least[set * MOST_STOPS + j] == minutes) {
                        return j;
                    }
                }
            }
            return -1;
        }

        private static boolean has(int set, int i) {
            return (set >> i & 1) != 0;
        }
    }

    /** The routes of all schools, and the chains in which buses drive them. */
    private static final class Fleet {
        boolean stands;
        int count;
        /** No two routes of one school can be driven by one bus, so there are never fewer buses than this. */
        int floor;
        final int[] school = new int[MOST_STOPS];
        final int[] next = new int[MOST_STOPS];
        private final int[] index = new int[MOST_STOPS];
        /** Minutes by which b's bell must ring behind a's so that b can follow a. */
        private final int[][] gap = new int[MOST_STOPS][MOST_STOPS];
        private final Matcher matcher = new Matcher();
        private int led;

        boolean has(int route) {
            return stands && within(route, 0, count - 1);
        }

        void gather(District district) {
            stands = true;
            count = 0;
            floor = 0;
            for (int s = 0; s < district.schoolCount; s++) {
                School at = district.schools[s];
                stands = stands && at.hasPlan;
                floor = Math.max(floor, at.routeCount);
                for (int i = 0; i < at.routeCount && count < MOST_STOPS; i++) {
                    school[count] = s;
                    index[count] = i;
                    count++;
                }
            }
            for (int a = 0; stands && a < count; a++) {
                for (int b = 0; b < count; b++) {
                    int way = district.town.table()[schoolOf(district, a).corner][firstCorner(district, b)];
                    gap[a][b] = way + district.slack + lengthOf(district, b);
                }
            }
        }

        School schoolOf(District district, int route) {
            return district.schools[school[route]];
        }

        int firstCorner(District district, int route) {
            School at = schoolOf(district, route);
            return district.stops[at.order[at.begin[index[route]]]].corner;
        }

        int lengthOf(District district, int route) {
            return schoolOf(district, route).length[index[route]];
        }

        int lengthOn(District district, int route, int[][] table) {
            School at = schoolOf(district, route);
            return district.minutesFrom(at, index[route], at.begin[index[route]], table);
        }

        int startOf(District district, int route) {
            return district.rings(school[route]) - lengthOf(district, route);
        }

        int pupilsOn(District district, int route) {
            School at = schoolOf(district, route);
            int sum = 0;
            for (int p = at.begin[index[route]]; p < at.begin[index[route] + 1]; p++) {
                sum += district.stops[at.order[p]].pupils;
            }
            return sum;
        }

        boolean canFollow(int[] bells, int a, int b) {
            return BELL_MINUTES * (bells[school[b]] - bells[school[a]]) >= gap[a][b];
        }

        int fewestBuses(int[] bells) {
            fillMatcher(bells);
            return count - matcher.most(0, (1 << count) - 1);
        }

        /** Routes in turn take the least follower that leaves as many followed routes as there can be. */
        void link(int[] bells) {
            fillMatcher(bells);
            int free = (1 << count) - 1;
            int due = matcher.most(0, free);
            for (int a = 0; a < count; a++) {
                next[a] = -1;
                for (int b = 0; b < count && next[a] < 0; b++) {
                    int without = free & ~(1 << b);
                    if ((matcher.open[a] & free & 1 << b) != 0 && matcher.most(a + 1, without) == due - 1) {
                        next[a] = b;
                        free = without;
                        due--;
                    }
                }
            }
            led = ((1 << count) - 1) & ~free;
        }

        private void fillMatcher(int[] bells) {
            matcher.count = count;
            for (int a = 0; a < count; a++) {
                int open = 0;
                for (int b = 0; b < count; b++) {
                    if (canFollow(bells, a, b)) {
                        open |= 1 << b;
                    }
                }
                matcher.open[a] = open;
            }
        }

        int busCount() {
            return count - Integer.bitCount(led);
        }

        boolean isFirst(int route) {
            return (led >> route & 1) == 0;
        }

        int driven(int bus, int i) {
            int left = bus;
            int route = -1;
            for (int r = 0; r < count && route < 0; r++) {
                if (isFirst(r)) {
                    route = left == 0 ? r : -1;
                    left--;
                }
            }
            for (int step = 0; step < i && step < count && route >= 0; step++) {
                route = next[route];
            }
            return route;
        }

        int specialBuses(District district) {
            int sum = 0;
            for (int first = 0; first < count; first++) {
                if (isFirst(first) && drivesSpecial(district, first)) {
                    sum++;
                }
            }
            return sum;
        }

        private boolean drivesSpecial(District district, int first) {
            int route = first;
            for (int step = 0; step < count && route >= 0; step++) {
                if (schoolOf(district, route).kind == SPECIAL) {
                    return true;
                }
                route = next[route];
            }
            return false;
        }
    }

    /** How many routes can be given followers, each follower once. */
    private static final class Matcher {
        int count;
        /** The routes that can follow each one, as bits. */
        final int[] open = new int[MOST_STOPS];
        private final int[] follower = new int[MOST_STOPS];
        private final int[] leader = new int[MOST_STOPS];
        private final int[] offeredBy = new int[MOST_STOPS];
        private final int[] queue = new int[MOST_STOPS];

        int most(int first, int free) {
            Arrays.fill(follower, -1);
            Arrays.fill(leader, -1);
            int sum = 0;
            for (int a = first; a < count; a++) {
                if (gains(a, free)) {
                    sum++;
                }
            }
            return sum;
        }

        /** A route that has no follower gets one, others' followers being moved where that helps. */
        private boolean gains(int root, int free) {
            int fresh = free;
            int queued = 1;
            queue[0] = root;
            for (int q = 0; q < queued; q++) {
                int a = queue[q];
                for (int b = 0; b < count; b++) {
                    if ((open[a] & fresh & 1 << b) != 0) {
                        fresh &= ~(1 << b);
                        offeredBy[b] = a;
                        if (leader[b] < 0) {
                            move(b);
                            return true;
                        }
                        if (queued < MOST_STOPS) {
                            queue[queued] = leader[b];
                            queued++;
                        }
                    }
                }
            }
            return false;
        }

        private void move(int last) {
            int b = last;
            for (int step = 0; step < count && b >= 0; step++) {
                int a = offeredBy[b];
                int was = follower[a];
                follower[a] = b;
                leader[b] = a;
                b = was;
            }
        }
    }

    /** The tape, and the rules that were read from it. */
    private static final class Rules {
        private static final int ROW = 5;

        int tapeLength;
        int count;
        private final int[] tape = new int[TAPE];
        private final int[] kind = new int[MOST_RULES];
        private final int[] low = new int[MOST_RULES];
        private final int[] high = new int[MOST_RULES];

        int lengthen(long w, int n) {
            for (int i = 0; i < n; i++) {
                tape[tapeLength] = (int) (w >> 8 * i) & 255;
                tapeLength++;
            }
            return tapeLength;
        }

        int firstWrong() {
            for (int p = 0; p < tapeLength; p++) {
                if (!canStand(p)) {
                    return p;
                }
            }
            return tapeLength % ROW == 0 ? -1 : tapeLength;
        }

        private boolean canStand(int p) {
            switch (p % ROW) {
                case 0: return p < MOST_RULES * ROW && kindOf(tape[p]) >= 0;
                case 1: return within(tape[p], '0', '6');
                case 2: return tape[p] == '-';
                case 3: return within(tape[p], tape[p - 2], '6');
                default: return tape[p] == ';';
            }
        }

        private static int kindOf(int letter) {
            switch (letter) {
                case 's': return 0;
                case 'l': return 1;
                case 'u': return 2;
                case 'x': return SPECIAL;
                default: return -1;
            }
        }

        /** Only behind firstWrong() that found none. */
        void adopt() {
            count = tapeLength / ROW;
            for (int r = 0; r < count; r++) {
                kind[r] = kindOf(tape[r * ROW]);
                low[r] = tape[r * ROW + 1] - '0';
                high[r] = tape[r * ROW + 3] - '0';
            }
        }

        boolean permit(int schoolKind, int bell) {
            for (int r = 0; r < count; r++) {
                if (isUnder(schoolKind, kind[r]) && !within(bell, low[r], high[r])) {
                    return false;
                }
            }
            return true;
        }
    }

    /** All trades of buses against wishes; bells of all schools are one code, school 0's digit the highest. */
    private static final class Market {
        private static final int REFUSED = -1;
        /** Above every cost. */
        private static final int UNKNOWN = 1000000;

        int count;
        private int schools;
        /** The buses of each trade: they differ, so all else is found by them. */
        private final int[] listed = new int[MOST_STOPS + 1];
        private final int[] cheapest = new int[MOST_STOPS + 1];
        private final int[] code = new int[MOST_STOPS + 1];
        private final int[][] price = new int[MOST_SCHOOLS][BELLS];
        private final int[] bells = new int[MOST_SCHOOLS];

        void weigh(District district, Fleet fleet, Rules rules) {
            schools = district.schoolCount;
            int codes = 1;
            for (int s = 0; s < schools; s++) {
                codes *= BELLS;
                for (int b = 0; b < BELLS; b++) {
                    boolean may = rules.permit(district.schools[s].kind, b);
                    price[s][b] = may ? district.costOf(s, b) : REFUSED;
                }
            }
            Arrays.fill(cheapest, UNKNOWN);
            for (int c = 0; c < codes; c++) {
                decode(c);
                int cost = priceOfBells();
                // Where as few buses as there ever are cost no more, these bells' buses need no counting.
                if (cost != REFUSED && cost < cheapest[fleet.floor]) {
                    note(c, cost, fleet.fewestBuses(bells));
                }
            }
            list();
        }

        private int priceOfBells() {
            int sum = 0;
            for (int s = 0; s < schools; s++) {
                if (price[s][bells[s]] == REFUSED) {
                    return REFUSED;
                }
                sum += price[s][bells[s]];
            }
            return sum;
        }

        /** Codes come in rising order: of equals the first one stays. */
        private void note(int c, int cost, int buses) {
            if (cost < cheapest[buses]) {
                cheapest[buses] = cost;
                code[buses] = c;
            }
        }

        private void decode(int c) {
            int left = c;
            for (int s = schools - 1; s >= 0; s--) {
                bells[s] = left % BELLS;
                left /= BELLS;
            }
        }

        private void list() {
            count = 0;
            int lowest = UNKNOWN;
            for (int buses = 0; buses <= MOST_STOPS; buses++) {
                if (cheapest[buses] < lowest) {
                    lowest = cheapest[buses];
                    listed[count] = buses;
                    count++;
                }
            }
        }

        int busesIn(int trade) {
            return listed[trade];
        }

        int costIn(int trade) {
            return cheapest[listed[trade]];
        }

        int[] bellsIn(int trade) {
            decode(code[listed[trade]]);
            return bells;
        }
    }

    /** The latest morning: when each route came. */
    private static final class Morning {
        int count;
        final int[] minute = new int[MOST_STOPS];

        int drive(District district, Fleet fleet, int lateRoute, int late, int snow) {
            int[][] table = district.town.tableWith(snow);
            int pupils = 0;
            count = fleet.count;
            for (int first = 0; first < count; first++) {
                if (fleet.isFirst(first)) {
                    driveBus(district, fleet, first, lateRoute, late, table);
                }
            }
            for (int r = 0; r < count; r++) {
                if (minute[r] > district.rings(fleet.school[r])) {
                    pupils += fleet.pupilsOn(district, r);
                }
            }
            return pupils;
        }

        private void driveBus(District district, Fleet fleet, int first, int lateRoute, int late, int[][] table) {
            int route = first;
            int ready = fleet.startOf(district, first);
            for (int step = 0; step < count && route >= 0; step++) {
                int begins = Math.max(ready, fleet.startOf(district, route)) + (route == lateRoute ? late : 0);
                minute[route] = begins + fleet.lengthOn(district, route, table);
                int following = fleet.next[route];
                if (following >= 0) {
                    int from = fleet.schoolOf(district, route).corner;
                    ready = minute[route] + table[from][fleet.firstCorner(district, following)];
                }
                route = following;
            }
        }
    }

    /** A row of numbers of some bits; of no bits: missing. */
    private static final class Sheet {
        int bits;
        int count;
        final int[] numbers = new int[MOST_NUMBERS];

        boolean isMissing() {
            return bits == 0;
        }

        int lay(int width, int n) {
            bits = width;
            count = width == 0 ? 0 : n;
            Arrays.fill(numbers, 0);
            return count;
        }

        int put(int i, int v) {
            int was = numbers[i];
            numbers[i] = bits == 8 ? (byte) v : bits == 16 ? (short) v : v;
            return was;
        }

        /** Asked by a difference: a sum of two great numbers would wrap around. */
        boolean holds(int first, int n) {
            return first >= 0 && n >= 0 && n <= count && first <= count - n;
        }

        boolean allWithin(int low, int high) {
            for (int i = 0; i < count; i++) {
                if (!within(numbers[i], low, high)) {
                    return false;
                }
            }
            return true;
        }
    }
}
