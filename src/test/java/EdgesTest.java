import java.lang.reflect.InvocationTargetException;
import java.lang.reflect.Method;
import java.lang.reflect.Modifier;
import java.util.Arrays;
import java.util.Comparator;
import java.util.Random;

/** No call ever throws, whatever numbers it is given, and one that answers a finding changes nothing. */
public final class EdgesTest {
    private static final int[] EDGES = {Integer.MIN_VALUE, Integer.MIN_VALUE + 1, -1000001, -2, -1, 0, 1, 2, 3, 4, 5, 6, 7, 8,
        9, 10, 11, 13, 14, 15, 16, 20, 21, 30, 31, 32, 40, 60, 61, 90, 91, 255, Integer.MAX_VALUE - 1, Integer.MAX_VALUE};
    private static final Due DUE = new Due("EdgesTest");

    private static Object[] arguments(Method m, Random chance) {
        Object[] args = new Object[m.getParameterCount()];
        for (int i = 0; i < args.length; i++) {
            Class<?> kind = m.getParameterTypes()[i];
            int edge = chance.nextInt(3) == 0 ? EDGES[chance.nextInt(EDGES.length)] : chance.nextInt(4);
            args[i] = kind == boolean.class ? (Object) chance.nextBoolean() : kind == long.class ? (Object) chance.nextLong() : (Object) edge;
        }
        return args;
    }

    private static Method[] face() {
        return Arrays.stream(BellWaves.class.getDeclaredMethods()).filter(m -> Modifier.isPublic(m.getModifiers()))
            .sorted(Comparator.comparing(Method::getName)).toArray(Method[]::new);
    }

    /** All that can be asked without a change, as one text. */
    private static String seen(BellWaves x) {
        StringBuilder all = new StringBuilder();
        for (int what = 0; what < 6; what++) all.append(x.told(what)).append(' ');
        all.append(x.cost()).append(' ').append(x.buses()).append(' ').append(x.trades()).append(' ');
        for (int a = 0; a < 8; a++) {
            for (int b = 0; b < 8; b++) all.append(x.far(a, b)).append(' ');
        }
        for (int s = 0; s < 4; s++) {
            for (int i = 0; i < 7; i++) all.append(x.of(s, i)).append(' ').append(x.allowed(s, i)).append(' ');
            for (int i = 0; i < 4; i++) all.append(x.fair(s, i)).append(' ').append(x.route(s, i, -1)).append(' ');
        }
        for (int i = 0; i < 10; i++) all.append(x.ride(i)).append(' ').append(x.comes(i)).append(' ').append(x.start(i)).append(' ');
        return all.toString();
    }

    private static void run(int seed, Method[] face) throws IllegalAccessException {
        Random chance = new Random(seed);
        BellWaves x = Due.row(1 + chance.nextInt(8), 1 + chance.nextInt(20));
        for (int s = chance.nextInt(5); s > 0; s--) x.school(chance.nextInt(4), 0);
        for (int s = chance.nextInt(11); s > 0; s--) x.stop(chance.nextInt(4), chance.nextInt(8), 1 + chance.nextInt(30), 0);
        for (int c = 0; c < 300; c++) {
            Method m = face[chance.nextInt(face.length)];
            Object[] args = arguments(m, chance);
            String call = "seed " + seed + ": " + m.getName() + Arrays.toString(args);
            boolean looks = c % 10 == 0 && !m.getName().equals("text");
            String before = looks ? seen(x) : "";
            int findings = x.told(6);
            try {
                m.invoke(x, args);
                if (looks && x.told(6) > findings) DUE.holds(call + " changes nothing with its finding", seen(x).equals(before));
                DUE.holds(call + " counts one finding at most", looks || x.told(6) - findings <= 1);
            } catch (InvocationTargetException e) {
                DUE.holds(call + " threw " + e.getCause(), false);
            }
        }
    }

    public static void main(String[] args) throws IllegalAccessException {
        Method[] face = face();
        for (int seed = 0; seed < 400; seed++) run(seed, face);
        DUE.end();
    }
}
