import java.lang.reflect.Array;
import java.lang.reflect.Field;
import java.lang.reflect.Modifier;
import java.util.ArrayDeque;
import java.util.Collections;
import java.util.Deque;
import java.util.IdentityHashMap;
import java.util.Set;

/** All calls of a run live in one room: what an object holds is small, and hundreds of calls make it no greater. */
public final class RoomTest {
    private static final Due DUE = new Due("RoomTest");

    private final Set<Object> held = Collections.newSetFromMap(new IdentityHashMap<>());
    private final Deque<Object> toLookAt = new ArrayDeque<>();
    private int elements;

    private RoomTest(BellWaves x) throws IllegalAccessException {
        reach(x);
        while (!toLookAt.isEmpty()) {
            Object o = toLookAt.pop();
            if (o.getClass().isArray()) {
                lookAtRow(o);
            } else {
                lookAtFields(o);
            }
        }
    }

    private void reach(Object o) {
        if (o != null && held.add(o)) {
            toLookAt.push(o);
        }
    }

    private void lookAtRow(Object row) {
        elements += Array.getLength(row);
        for (int i = 0; i < Array.getLength(row) && !row.getClass().getComponentType().isPrimitive(); i++) {
            reach(Array.get(row, i));
        }
    }

    private void lookAtFields(Object o) throws IllegalAccessException {
        for (Field f : o.getClass().getDeclaredFields()) {
            if (!Modifier.isStatic(f.getModifiers())) {
                elements++;
                f.setAccessible(true);
                if (!f.getType().isPrimitive()) {
                    reach(f.get(o));
                }
            }
        }
    }

    private static BellWaves fullTown() {
        BellWaves x = Due.row(8, 1);
        for (int s = 0; s < 4; s++) {
            x.school(s, s);
        }
        for (int s = 0; s < 10; s++) {
            x.stop(s % 4, s % 8, 30, s % 4);
        }
        return x;
    }

    /** Nine calls, three of which make plans, chains and trades anew. */
    private static void useAll(BellWaves x, int time) {
        x.pupils(time % 10, 1 + time % 30);
        x.trades();
        x.bell(time % 4, time % 7);
        x.morning(0, time % 61, time % 11);
        x.sheet(time % 4, 32, 10);
        x.write(time % 4, 0, time);
        x.feed('s', 1);
        x.text();
        x.fair(time % 4, 1);
    }

    public static void main(String[] args) throws IllegalAccessException {
        RoomTest empty = new RoomTest(new BellWaves());
        DUE.holds("a new object holds some 1,000 elements, not " + empty.elements, empty.elements <= 1200);
        BellWaves x = fullTown();
        x.trades();
        RoomTest planned = new RoomTest(x);
        DUE.holds("with the planner some 14,000 more, not " + planned.elements, planned.elements <= empty.elements + 14000);
        DUE.holds("and few objects, not " + planned.held.size(), planned.held.size() <= 150);
        for (int time = 0; time < 50; time++) {
            useAll(x, time);
        }
        RoomTest used = new RoomTest(x);
        DUE.is("elements behind all calls", used.elements, planned.elements);
        used.held.removeAll(planned.held);
        DUE.is("objects that calls have put in", used.held.size(), 0);
        DUE.end();
    }
}
