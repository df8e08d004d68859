import java.lang.reflect.Method;
import java.lang.reflect.Modifier;
import java.util.ArrayList;
import java.util.Arrays;
import java.util.Comparator;
import java.util.List;
import java.util.Random;

/** By chance, from fixed seeds: no call throws, whatever numbers it is given; a refused one changes nothing, nor does asking. */
public final class EdgesTest {
    private static final int RUNS = 400;
    private static final int[] EDGES = {Integer.MIN_VALUE, Integer.MIN_VALUE + 1, -1000001, -2, -1, 0, 1, 2, 3, 4, 5, 6, 7, 8,
        9, 10, 11, 13, 14, 15, 16, 20, 21, 30, 31, 32, 40, 60, 61, 90, 91, 255, Integer.MAX_VALUE - 1, Integer.MAX_VALUE};
    private static final String[] QUESTIONS = {"far(0, 1)", "ride(0)", "trades()", "buses()"};
    private static final Due DUE = new Due("EdgesTest");

    private final Random chance;
    private final Method[] face = Arrays.stream(BellWaves.class.getDeclaredMethods())
        .filter(m -> Modifier.isPublic(m.getModifiers())).sorted(Comparator.comparing(Method::getName)).toArray(Method[]::new);

    private EdgesTest(int seed) {
        chance = new Random(seed);
    }

    private String word(Class<?> kind) {
        if (kind == boolean.class) return Boolean.toString(chance.nextBoolean());
        if (kind == long.class) return Long.toString(chance.nextLong());
        return Integer.toString(chance.nextInt(3) == 0 ? EDGES[chance.nextInt(EDGES.length)] : chance.nextInt(4));
    }

    private String anyCall() {
        Method m = face[chance.nextInt(face.length)];
        List<String> words = new ArrayList<>();
        for (Class<?> kind : m.getParameterTypes()) words.add(word(kind));
        return m.getName() + "(" + String.join(", ", words) + ")";
    }

    private int upTo(int most) {
        return 1 + chance.nextInt(most);
    }

    /** A town whose schools have plans as a rule. */
    private List<String> town() {
        List<String> calls = new ArrayList<>();
        int corners = 1 + upTo(7);
        for (int c = 0; c < corners; c++) calls.add("corner()");
        for (int c = 1; c < corners; c++) calls.add("street(" + c + ", " + chance.nextInt(c) + ", " + upTo(9) + ")");
        int schools = upTo(4);
        for (int s = 0; s < schools; s++) calls.add("school(" + chance.nextInt(4) + ", " + chance.nextInt(corners) + ")");
        for (int s = upTo(7); s > 0; s--) {
            String where = chance.nextInt(schools) + ", " + chance.nextInt(corners);
            calls.add("stop(" + where + ", " + upTo(30) + ", " + chance.nextInt(4) + ")");
        }
        for (int s = 0; s < schools; s++) calls.add("bell(" + s + ", " + chance.nextInt(7) + ")");
        return calls;
    }

    /** One of the acts that change something, with numbers that are mostly allowed. */
    private String change() {
        switch (chance.nextInt(16)) {
            case 0: return "street(" + chance.nextInt(3) + ", " + chance.nextInt(3) + ", " + upTo(3) + ")";
            case 1: return "shut(" + chance.nextInt(4) + ", " + chance.nextBoolean() + ")";
            case 2: return "school(" + chance.nextInt(4) + ", " + chance.nextInt(3) + ")";
            case 3: case 4: return "bell(" + chance.nextInt(4) + ", " + chance.nextInt(7) + ")";
            case 5: case 6: return "wish(" + chance.nextInt(4) + ", " + chance.nextInt(7) + ")";
            case 7: return "stop(" + chance.nextInt(3) + ", " + chance.nextInt(3) + ", " + upTo(30) + ", " + chance.nextInt(4) + ")";
            case 8: return "pupils(" + chance.nextInt(6) + ", " + upTo(30) + ")";
            case 9: return "gone(" + chance.nextInt(6) + ")";
            case 10: return "terms(" + (30 + upTo(30)) + ", " + (40 + upTo(50)) + ", " + chance.nextInt(20) + ")";
            case 11: return chance.nextBoolean() ? "text()" : "feed(254278447987, 5)"; // s3-4;
            case 12: return "take(" + chance.nextInt(2) + ")";
            case 13: return "morning(" + chance.nextInt(3) + ", " + chance.nextInt(61) + ", " + chance.nextInt(11) + ")";
            case 14: return "read(0, " + chance.nextInt(4) + ")";
            default: return chance.nextBoolean() ? "sheet(0, 8, 2)" : "write(0, " + chance.nextInt(2) + ", " + upTo(30) + ")";
        }
    }

    private void edges(int seed) {
        Run run = new Run(DUE, "seed " + seed);
        for (String call : town()) run.tries(call);
        for (int c = 0; c < 25; c++) run.tries(anyCall());
    }

    private void questions(int seed) {
        List<String> calls = town();
        int built = calls.size();
        List<String> changes = new ArrayList<>(List.of("sheet(0, 8, 1)", "write(0, 0, 30)"));
        for (int c = 0; c < 12; c++) changes.add(change());
        calls.addAll(changes);
        DUE.holds("a town is not too large for 512 calls", built < 32);
        Run.asksBetween(DUE, "seed " + seed, calls.subList(0, built), calls.subList(built, calls.size()), QUESTIONS);
    }

    public static void main(String[] args) {
        for (int seed = 0; seed < RUNS; seed++) new EdgesTest(seed).edges(seed);
        for (int seed = 0; seed < RUNS; seed++) new EdgesTest(seed + RUNS).questions(seed + RUNS);
        DUE.end();
    }
}
