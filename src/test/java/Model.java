import java.util.ArrayList;
import java.util.Arrays;
import java.util.HashMap;
import java.util.List;
import java.util.Map;

/** The document told once more by trying everything out: slow, and sharing no way of reckoning with BellWaves. */
final class Model {
    private static final int[][] KINDS_OVER = {{0}, {0, 1}, {0, 2}, {0, 1, 3}};

    private int corners;
    private final List<int[]> streets = new ArrayList<>();
    private final List<int[]> schools = new ArrayList<>(); // kind, corner, bell, wish
    private final List<int[]> stops = new ArrayList<>(); // school, corner, pupils, quarter
    private int seats = 40;
    private int ride = 60;
    private int slack;
    private final StringBuilder tape = new StringBuilder();
    private List<int[]> rules = new ArrayList<>(); // kind, low, high
    private int[] came = {};
    private final int[][] sheets = new int[4][];
    private final int[] bits = new int[4];
    private final Map<String, List<Line>> plans = new HashMap<>();
    int findings;

    private int no(int finding) {
        findings++;
        return finding;
    }

    private static boolean out(int v, int low, int high) {
        return v < low || v > high;
    }

    private boolean noCorner(int c) {
        return out(c, 0, corners - 1);
    }

    private boolean noSchool(int s) {
        return out(s, 0, schools.size() - 1);
    }

    private boolean noStop(int s) {
        return out(s, 0, stops.size() - 1);
    }

    int corner() {
        return corners == 8 ? no(Due.FULL) : corners++;
    }

    int street(int a, int b, int minutes) {
        if (noCorner(a) || noCorner(b) || a == b || out(minutes, 1, 20)) return no(Due.BEYOND);
        if (streets.size() == 14) return no(Due.FULL);
        streets.add(new int[] {a, b, minutes, 0});
        return streets.size() - 1;
    }

    int shut(int street, boolean is) {
        if (out(street, 0, streets.size() - 1)) return no(Due.BEYOND);
        int was = streets.get(street)[3];
        streets.get(street)[3] = is ? 1 : 0;
        return was == streets.get(street)[3] ? 0 : 1;
    }

    /** The least minutes, -1 without a way: every path without a corner twice is walked. */
    private int way(int a, int b, int snow, int been) {
        if (a == b) return 0;
        int best = -1;
        for (int[] s : streets) {
            if (s[3] == 1 || (s[0] != a && s[1] != a)) continue;
            int other = s[0] == a ? s[1] : s[0];
            if ((been >> other & 1) == 1) continue;
            int rest = way(other, b, snow, been | 1 << other);
            if (rest >= 0 && (best < 0 || rest + s[2] + snow < best)) best = rest + s[2] + snow;
        }
        return best;
    }

    private int way(int a, int b, int snow) {
        return way(a, b, snow, 1 << a);
    }

    private int[][] ways(int snow) {
        int[][] ways = new int[corners][corners];
        for (int a = 0; a < corners; a++) {
            for (int b = 0; b < corners; b++) ways[a][b] = way(a, b, snow);
        }
        return ways;
    }

    int far(int a, int b) {
        if (noCorner(a) || noCorner(b)) return no(Due.BEYOND);
        int w = way(a, b, 0);
        return w < 0 ? no(Due.NONE) : w;
    }

    int school(int kind, int corner) {
        if (out(kind, 0, 3) || noCorner(corner)) return no(Due.BEYOND);
        if (schools.size() == 4) return no(Due.FULL);
        schools.add(new int[] {kind, corner, 0, 3});
        return schools.size() - 1;
    }

    private static boolean isA(int kind, int over) {
        for (int k : KINDS_OVER[kind]) {
            if (k == over) return true;
        }
        return false;
    }

    int as(int school, int kind) {
        if (noSchool(school) || out(kind, 0, 3)) return no(Due.BEYOND);
        return isA(schools.get(school)[0], kind) ? school : no(Due.KIND);
    }

    private int pupilsOf(int school) {
        return stops.stream().filter(s -> s[0] == school).mapToInt(s -> s[2]).sum();
    }

    private int limit(int school) {
        return schools.get(school)[0] == 3 ? ride / 2 : ride;
    }

    int of(int school, int what) {
        if (noSchool(school) || out(what, 0, 6)) return no(Due.BEYOND);
        if (what < 4) return schools.get(school)[what];
        if (what == 4) return (int) stops.stream().filter(s -> s[0] == school).count();
        return what == 5 ? pupilsOf(school) : limit(school);
    }

    private int set(int school, int place, int b) {
        if (noSchool(school) || out(b, 0, 6)) return no(Due.BEYOND);
        int was = schools.get(school)[place];
        schools.get(school)[place] = b;
        return was;
    }

    int bell(int school, int b) {
        return set(school, 2, b);
    }

    int wish(int school, int b) {
        return set(school, 3, b);
    }

    int stop(int school, int corner, int pupils, int quarter) {
        if (noSchool(school) || noCorner(corner) || out(pupils, 1, 30) || out(quarter, 0, 3)) return no(Due.BEYOND);
        if (stops.size() == 10) return no(Due.FULL);
        stops.add(new int[] {school, corner, pupils, quarter});
        return stops.size() - 1;
    }

    int pupils(int stop, int v) {
        if (noStop(stop) || out(v, 1, 30)) return no(Due.BEYOND);
        int was = stops.get(stop)[2];
        stops.get(stop)[2] = v;
        return was;
    }

    int gone(int stop) {
        if (noStop(stop)) return no(Due.BEYOND);
        stops.remove(stop);
        return stops.size();
    }

    int terms(int seats, int ride, int slack) {
        if (out(seats, 1, 60) || out(ride, 1, 90) || out(slack, 0, 30)) return no(Due.BEYOND);
        this.seats = seats;
        this.ride = ride;
        this.slack = slack;
        return 1;
    }

    // ---- plans

    private static final class Line {
        int school;
        int length;
        List<Integer> order;
    }

    private int lengthOf(int school, List<Integer> order, int from, int[][] ways) {
        int sum = 0;
        for (int k = from; k < order.size(); k++) {
            int next = k + 1 < order.size() ? stops.get(order.get(k + 1))[1] : schools.get(school)[1];
            int w = ways[stops.get(order.get(k))[1]][next];
            if (w < 0) return -1;
            sum += 1 + w;
        }
        return sum;
    }

    /** The best order of a set of stops; null if it is no route. Orders are tried from the lesser ones on. */
    private Line lineOf(int school, int set, int[][] ways) {
        int load = 0;
        for (int s = 0; s < stops.size(); s++) {
            if ((set >> s & 1) == 1) load += stops.get(s)[2];
        }
        if (load > seats) return null;
        Line best = new Line();
        best.school = school;
        best.length = -1;
        permute(set, new ArrayList<>(), best, ways);
        return best.length < 0 || best.length > limit(school) ? null : best;
    }

    private void permute(int left, List<Integer> order, Line best, int[][] ways) {
        if (left == 0) {
            int length = lengthOf(best.school, order, 0, ways);
            if (length >= 0 && (best.length < 0 || length < best.length)) {
                best.length = length;
                best.order = new ArrayList<>(order);
            }
            return;
        }
        for (int s = 0; s < stops.size(); s++) {
            if ((left >> s & 1) == 0) continue;
            order.add(s);
            permute(left & ~(1 << s), order, best, ways);
            order.remove(order.size() - 1);
        }
    }

    /** Plans are found once for all that they depend on, which is their key word for word. */
    private List<Line> plan(int school) {
        StringBuilder key = new StringBuilder();
        key.append(school).append(Arrays.toString(new int[] {corners, seats, ride}));
        for (int[] s : streets) key.append(Arrays.toString(s));
        for (int[] s : schools) key.append(Arrays.toString(new int[] {s[0], s[1]}));
        for (int[] s : stops) key.append(Arrays.toString(s));
        if (!plans.containsKey(key.toString())) plans.put(key.toString(), newPlan(school));
        return plans.get(key.toString());
    }

    private List<Line> newPlan(int school) {
        int[][] ways = ways(0);
        List<Integer> mine = new ArrayList<>();
        for (int s = 0; s < stops.size(); s++) {
            if (stops.get(s)[0] == school) mine.add(s);
        }
        List<List<Integer>> partings = new ArrayList<>();
        part(mine, 0, new ArrayList<>(), partings);
        Map<Integer, Line> lines = new HashMap<>();
        List<Integer> best = null;
        int bestSum = 0;
        for (List<Integer> parting : partings) {
            int sum = 0;
            boolean can = true;
            for (int set : parting) {
                if (!lines.containsKey(set)) lines.put(set, lineOf(school, set, ways));
                Line line = lines.get(set);
                can = can && line != null;
                sum += line == null ? 0 : line.length;
            }
            if (can && (best == null || better(parting, sum, best, bestSum))) {
                best = parting;
                bestSum = sum;
            }
        }
        if (best == null) return null;
        List<Line> plan = new ArrayList<>();
        for (int set : best) plan.add(lines.get(set));
        return plan;
    }

    private static boolean better(List<Integer> a, int sumA, List<Integer> b, int sumB) {
        if (a.size() != b.size()) return a.size() < b.size();
        if (sumA != sumB) return sumA < sumB;
        for (int i = 0; i < a.size(); i++) {
            if (!a.get(i).equals(b.get(i))) return a.get(i) < b.get(i);
        }
        return false;
    }

    /** Each stop joins a set that is there, or begins one: sets are so in order by their least stops. */
    private static void part(List<Integer> mine, int at, List<Integer> sets, List<List<Integer>> found) {
        if (at == mine.size()) {
            found.add(new ArrayList<>(sets));
            return;
        }
        int bit = 1 << mine.get(at);
        for (int i = 0; i < sets.size(); i++) {
            int was = sets.get(i);
            sets.set(i, was | bit);
            part(mine, at + 1, sets, found);
            sets.set(i, was);
        }
        sets.add(bit);
        part(mine, at + 1, sets, found);
        sets.remove(sets.size() - 1);
    }

    int routes(int school) {
        if (noSchool(school)) return no(Due.BEYOND);
        List<Line> plan = plan(school);
        return plan == null ? no(Due.NONE) : plan.size();
    }

    int route(int school, int i, int k) {
        if (noSchool(school) || i < 0 || k < -1) return no(Due.BEYOND);
        List<Line> plan = plan(school);
        if (plan == null || i >= plan.size()) return no(Due.NONE);
        Line line = plan.get(i);
        if (k == -1) return line.length;
        return k < line.order.size() ? line.order.get(k) : -1;
    }

    private int rideOf(int stop, List<Line> plan) {
        for (Line line : plan) {
            int k = line.order.indexOf(stop);
            if (k >= 0) return lengthOf(line.school, line.order, k, ways(0));
        }
        throw new IllegalStateException();
    }

    int ride(int stop) {
        if (noStop(stop)) return no(Due.BEYOND);
        List<Line> plan = plan(stops.get(stop)[0]);
        return plan == null ? no(Due.NONE) : rideOf(stop, plan);
    }

    private List<Line> lines() {
        List<Line> every = new ArrayList<>();
        for (int s = 0; s < schools.size(); s++) {
            List<Line> plan = plan(s);
            if (plan == null) return null;
            every.addAll(plan);
        }
        return every;
    }

    int all() {
        List<Line> lines = lines();
        return lines == null ? no(Due.NONE) : lines.size();
    }

    private int[] bells() {
        return schools.stream().mapToInt(s -> s[2]).toArray();
    }

    private static int startOf(Line line, int[] bells) {
        return 60 + 20 * bells[line.school] - line.length;
    }

    private boolean canFollow(Line a, Line b, int[] bells) {
        int w = way(schools.get(a.school)[1], stops.get(b.order.get(0))[1], 0);
        return w >= 0 && 60 + 20 * bells[a.school] + w + slack <= startOf(b, bells);
    }

    int start(int route) {
        if (route < 0) return no(Due.BEYOND);
        List<Line> lines = lines();
        return lines == null || route >= lines.size() ? no(Due.NONE) : startOf(lines.get(route), bells());
    }

    int follows(int a, int b) {
        if (a < 0 || b < 0 || a == b) return no(Due.BEYOND);
        List<Line> lines = lines();
        if (lines == null || a >= lines.size() || b >= lines.size()) return no(Due.NONE);
        return canFollow(lines.get(a), lines.get(b), bells()) ? 1 : 0;
    }

    // ---- chains

    private static final class Links {
        int[] next;
        int links = -1;
    }

    /** Every way of giving routes followers is tried, the lesser numbers first: of the best the first one stays. */
    private static void tryLinks(boolean[][] can, int a, int[] next, int used, int links, Links best) {
        if (a == can.length) {
            if (links > best.links) {
                best.links = links;
                best.next = next.clone();
            }
            return;
        }
        for (int b = 0; b < can.length; b++) {
            if (!can[a][b] || (used >> b & 1) == 1) continue;
            next[a] = b;
            tryLinks(can, a + 1, next, used | 1 << b, links + 1, best);
        }
        next[a] = -1;
        tryLinks(can, a + 1, next, used, links, best);
    }

    private boolean[][] table(List<Line> lines, int[] bells) {
        boolean[][] can = new boolean[lines.size()][lines.size()];
        for (int a = 0; a < can.length; a++) {
            for (int b = 0; b < can.length; b++) {
                can[a][b] = a != b && canFollow(lines.get(a), lines.get(b), bells);
            }
        }
        return can;
    }

    private List<List<Integer>> chains(List<Line> lines) {
        Links best = new Links();
        tryLinks(table(lines, bells()), 0, new int[lines.size()], 0, 0, best);
        List<List<Integer>> chains = new ArrayList<>();
        for (int r = 0; r < lines.size(); r++) {
            boolean led = false;
            for (int n : best.next) led = led || n == r;
            if (led) continue;
            List<Integer> chain = new ArrayList<>();
            for (int at = r; at >= 0; at = best.next[at]) chain.add(at);
            chains.add(chain);
        }
        return chains;
    }

    int buses() {
        List<Line> lines = lines();
        return lines == null ? no(Due.NONE) : chains(lines).size();
    }

    int chain(int bus, int i) {
        if (bus < 0 || i < 0) return no(Due.BEYOND);
        List<Line> lines = lines();
        if (lines == null) return no(Due.NONE);
        List<List<Integer>> chains = chains(lines);
        if (bus >= chains.size()) return no(Due.NONE);
        return i < chains.get(bus).size() ? chains.get(bus).get(i) : -1;
    }

    int aides() {
        List<Line> lines = lines();
        if (lines == null) return no(Due.NONE);
        int sum = 0;
        for (List<Integer> chain : chains(lines)) {
            if (chain.stream().anyMatch(r -> schools.get(lines.get(r).school)[0] == 3)) sum++;
        }
        return sum;
    }

    // ---- rules and trades

    int feed(long w, int n) {
        if (out(n, 1, 8)) return no(Due.BEYOND);
        if (tape.length() + n > 60) return no(Due.FULL);
        long left = w;
        for (int i = 0; i < n; i++) {
            tape.append((char) (left & 255));
            left >>>= 8;
        }
        return tape.length();
    }

    /** A beginning of a text can stand if it can be made whole: the first one that can't ends with the wrong byte. */
    private static boolean canBegin(String s) {
        int rows = 0;
        for (int at = 0; at < s.length(); at += 5) {
            String row = s.substring(at, Math.min(at + 5, s.length()));
            if (++rows > 8) return false;
            String form = "[slux]([0-6](-([0-6](;)?)?)?)?";
            if (!row.matches("(?s)" + form)) return false;
            if (row.length() > 3 && row.charAt(3) < row.charAt(1)) return false;
        }
        return true;
    }

    int text() {
        String s = tape.toString();
        tape.setLength(0);
        for (int n = 1; n <= s.length(); n++) {
            if (!canBegin(s.substring(0, n))) return no(Due.WRONG - (n - 1));
        }
        if (s.length() % 5 != 0) return no(Due.WRONG - s.length());
        rules = new ArrayList<>();
        for (int at = 0; at < s.length(); at += 5) {
            rules.add(new int[] {"slux".indexOf(s.charAt(at)), s.charAt(at + 1) - '0', s.charAt(at + 3) - '0'});
        }
        return rules.size();
    }

    private boolean may(int school, int b) {
        return rules.stream().allMatch(r -> !isA(schools.get(school)[0], r[0]) || (b >= r[1] && b <= r[2]));
    }

    int allowed(int school, int b) {
        if (noSchool(school) || out(b, 0, 6)) return no(Due.BEYOND);
        return may(school, b) ? 1 : 0;
    }

    private int costOf(int[] bells) {
        int sum = 0;
        for (int s = 0; s < bells.length; s++) sum += 20 * pupilsOf(s) * Math.abs(bells[s] - schools.get(s)[3]);
        return sum;
    }

    int cost() {
        return costOf(bells());
    }

    private void everyBells(int school, int[] bells, List<int[]> found) {
        if (school == bells.length) {
            found.add(bells.clone());
            return;
        }
        for (int b = 0; b < 7; b++) {
            if (!may(school, b)) continue;
            bells[school] = b;
            everyBells(school + 1, bells, found);
        }
    }

    private static boolean finds(boolean[][] can, int a, boolean[] seen, int[] leader) {
        for (int b = 0; b < can.length; b++) {
            if (!can[a][b] || seen[b]) continue;
            seen[b] = true;
            if (leader[b] < 0 || finds(can, leader[b], seen, leader)) {
                leader[b] = a;
                return true;
            }
        }
        return false;
    }

    private static int fewest(boolean[][] can) {
        int[] leader = new int[can.length];
        Arrays.fill(leader, -1);
        int buses = can.length;
        for (int a = 0; a < can.length; a++) {
            if (finds(can, a, new boolean[can.length], leader)) buses--;
        }
        return buses;
    }

    /** Rows of buses, cost, bells: all bells against all bells. */
    private List<int[]> tradeRows() {
        List<Line> lines = lines();
        List<int[]> rows = new ArrayList<>();
        if (lines == null) return rows;
        int n = lines.size();
        int[][] ways = new int[n][n];
        for (int a = 0; a < n; a++) {
            for (int b = 0; b < n; b++) {
                ways[a][b] = way(schools.get(lines.get(a).school)[1], stops.get(lines.get(b).order.get(0))[1], 0);
            }
        }
        List<int[]> every = new ArrayList<>();
        everyBells(0, new int[schools.size()], every);
        List<int[]> priced = new ArrayList<>();
        for (int[] bells : every) {
            boolean[][] can = new boolean[n][n];
            for (int a = 0; a < n; a++) {
                for (int b = 0; b < n; b++) {
                    int ready = 60 + 20 * bells[lines.get(a).school] + ways[a][b] + slack;
                    can[a][b] = a != b && ways[a][b] >= 0 && ready <= startOf(lines.get(b), bells);
                }
            }
            int[] row = new int[2 + bells.length];
            row[0] = fewest(can);
            row[1] = costOf(bells);
            System.arraycopy(bells, 0, row, 2, bells.length);
            priced.add(row);
        }
        for (int[] row : priced) {
            boolean stays = true;
            for (int[] o : priced) {
                if (o[0] <= row[0] && o[1] <= row[1] && (o[0] < row[0] || o[1] < row[1])) {
                    stays = false;
                    break;
                }
            }
            for (int[] r : rows) stays = stays && !(r[0] == row[0] && r[1] == row[1]);
            if (stays) rows.add(row);
        }
        rows.sort((a, b) -> Integer.compare(a[0], b[0]));
        return rows;
    }

    int trades() {
        List<int[]> rows = tradeRows();
        return rows.isEmpty() ? no(Due.NONE) : rows.size();
    }

    int trade(int i, int what) {
        if (i < 0 || what < 0 || what - 2 >= schools.size()) return no(Due.BEYOND);
        List<int[]> rows = tradeRows();
        return i >= rows.size() ? no(Due.NONE) : rows.get(i)[what];
    }

    int take(int i) {
        if (i < 0) return no(Due.BEYOND);
        List<int[]> rows = tradeRows();
        if (i >= rows.size()) return no(Due.NONE);
        for (int s = 0; s < schools.size(); s++) schools.get(s)[2] = rows.get(i)[2 + s];
        return rows.get(i)[0];
    }

    // ---- mornings, quarters

    int morning(int route, int late, int snow) {
        if (route < 0 || out(late, 0, 60) || out(snow, 0, 10)) return no(Due.BEYOND);
        List<Line> lines = lines();
        if (lines == null || route >= lines.size()) return no(Due.NONE);
        came = new int[lines.size()];
        int sum = 0;
        for (List<Integer> chain : chains(lines)) {
            for (int i = 0; i < chain.size(); i++) {
                Line line = lines.get(chain.get(i));
                int begins = startOf(line, bells());
                if (i > 0) {
                    Line ahead = lines.get(chain.get(i - 1));
                    int w = way(schools.get(ahead.school)[1], stops.get(line.order.get(0))[1], snow);
                    begins = Math.max(begins, came[chain.get(i - 1)] + w);
                }
                if (chain.get(i) == route) begins += late;
                came[chain.get(i)] = begins + lengthOf(line.school, line.order, 0, ways(snow));
                if (came[chain.get(i)] > 60 + 20 * bells()[line.school]) {
                    for (int s : line.order) sum += stops.get(s)[2];
                }
            }
        }
        return sum;
    }

    int comes(int route) {
        if (route < 0) return no(Due.BEYOND);
        return route < came.length ? came[route] : no(Due.NONE);
    }

    int fair(int quarter, int what) {
        if (out(quarter, 0, 3) || out(what, 0, 3)) return no(Due.BEYOND);
        if ((what == 1 || what == 2) && lines() == null) return no(Due.NONE);
        int sum = 0;
        int greatest = 0;
        for (int s = 0; s < stops.size(); s++) {
            int[] stop = stops.get(s);
            if (stop[3] != quarter) continue;
            if (what == 0) sum += stop[2];
            if (what == 1 || what == 2) {
                int r = rideOf(s, plan(stop[0]));
                sum += stop[2] * r;
                greatest = Math.max(greatest, r);
            }
            if (what == 3) {
                int[] school = schools.get(stop[0]);
                if (school[2] < school[3]) sum += stop[2] * 20 * (school[3] - school[2]);
            }
        }
        return what == 2 ? greatest : sum;
    }

    // ---- sheets

    int sheet(int s, int width, int n) {
        if (out(s, 0, 3) || (width != 0 && width != 8 && width != 16 && width != 32)) return no(Due.BEYOND);
        if (n < 0) return no(Due.SIZE);
        if (n > 10) return no(Due.BEYOND);
        bits[s] = width;
        sheets[s] = width == 0 ? null : new int[n];
        return width == 0 ? 0 : n;
    }

    int write(int s, int i, int v) {
        if (out(s, 0, 3)) return no(Due.BEYOND);
        if (sheets[s] == null) return no(Due.MISSING);
        if (out(i, 0, sheets[s].length - 1)) return no(Due.BEYOND);
        int was = sheets[s][i];
        sheets[s][i] = v << 32 - bits[s] >> 32 - bits[s];
        return was;
    }

    int copy(int s, int from, int t, int to, int n) {
        if (out(s, 0, 3) || out(t, 0, 3)) return no(Due.BEYOND);
        if (sheets[s] == null || sheets[t] == null) return no(Due.MISSING);
        if (bits[s] != bits[t]) return no(Due.KIND);
        if (from < 0 || to < 0 || n < 0) return no(Due.BEYOND);
        if ((long) from + n > sheets[s].length || (long) to + n > sheets[t].length) return no(Due.BEYOND);
        int[] were = sheets[s].clone();
        for (int i = 0; i < n; i++) sheets[t][to + i] = were[from + i];
        return n;
    }

    int read(int s, int first) {
        if (out(s, 0, 3)) return no(Due.BEYOND);
        if (sheets[s] == null) return no(Due.MISSING);
        for (int i = 0; i < sheets[s].length; i++) {
            long stop = (long) first + i;
            if (stop < 0 || stop >= stops.size() || out(sheets[s][i], 1, 30)) return no(Due.BEYOND);
        }
        for (int i = 0; i < sheets[s].length; i++) stops.get(first + i)[2] = sheets[s][i];
        return sheets[s].length;
    }

    int told(int what) {
        if (out(what, 0, 6)) return no(Due.BEYOND);
        int[] answers = {corners, streets.size(), schools.size(), stops.size(), rules.size(), tape.length(), findings};
        return answers[what];
    }
}
