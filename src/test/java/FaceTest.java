import java.lang.reflect.Constructor;
import java.lang.reflect.Field;
import java.lang.reflect.Method;
import java.lang.reflect.Modifier;
import java.util.ArrayList;
import java.util.Collections;
import java.util.List;

/** The public face is the document's, and nothing else of the class can be seen from outside. */
public final class FaceTest {
    private static final Due DUE = new Due("FaceTest");

    private static final String[] FACE = {
        "corner()", "street(int, int, int)", "shut(int, boolean)", "far(int, int)", "school(int, int)", "as(int, int)",
        "of(int, int)", "bell(int, int)", "wish(int, int)", "stop(int, int, int, int)", "pupils(int, int)", "gone(int)",
        "terms(int, int, int)", "routes(int)", "route(int, int, int)", "ride(int)", "all()", "start(int)",
        "follows(int, int)", "buses()", "chain(int, int)", "aides()", "feed(long, int)", "text()", "allowed(int, int)",
        "cost()", "trades()", "trade(int, int)", "take(int)", "morning(int, int, int)", "comes(int)", "fair(int, int)",
        "sheet(int, int, int)", "write(int, int, int)", "copy(int, int, int, int, int)", "read(int, int)", "told(int)"};

    private static String told(Method m) {
        List<String> kinds = new ArrayList<>();
        for (Class<?> c : m.getParameterTypes()) {
            kinds.add(c.getName());
        }
        return m.getName() + "(" + String.join(", ", kinds) + ")";
    }

    private static void methods() {
        List<String> seen = new ArrayList<>();
        List<String> names = new ArrayList<>();
        for (Method m : BellWaves.class.getDeclaredMethods()) {
            if (Modifier.isPublic(m.getModifiers())) {
                seen.add(told(m));
                names.add(m.getName());
                DUE.holds(m + " answers an int", m.getReturnType() == int.class && !Modifier.isStatic(m.getModifiers()));
            } else {
                DUE.holds(m + " is private", Modifier.isPrivate(m.getModifiers()));
            }
        }
        List<String> due = new ArrayList<>(List.of(FACE));
        Collections.sort(due);
        Collections.sort(seen);
        DUE.holds("the public methods are " + due + " and not " + seen, due.equals(seen));
        noNamesakes(BellWaves.class, names);
        for (Class<?> inside : BellWaves.class.getDeclaredClasses()) {
            noNamesakes(inside, names);
            DUE.holds(inside + " is static", Modifier.isStatic(inside.getModifiers()));
            DUE.holds(inside + " is not public", !Modifier.isPublic(inside.getModifiers()));
        }
    }

    private static void noNamesakes(Class<?> c, List<String> names) {
        for (Method m : c.getDeclaredMethods()) {
            if (Modifier.isPrivate(m.getModifiers())) {
                DUE.holds(m + " has a name of its own", !names.contains(m.getName()));
            }
            DUE.holds(m + " takes at most seven", m.getParameterCount() <= 7);
        }
    }

    private static void members() {
        for (Field f : BellWaves.class.getDeclaredFields()) {
            DUE.holds(f + " is private", Modifier.isPrivate(f.getModifiers()));
            DUE.holds(f + " is final if it is static", !Modifier.isStatic(f.getModifiers()) || Modifier.isFinal(f.getModifiers()));
        }
        Constructor<?>[] all = BellWaves.class.getDeclaredConstructors();
        DUE.is("constructors", all.length, 1);
        DUE.holds("the constructor is public and asks for nothing",
            Modifier.isPublic(all[0].getModifiers()) && all[0].getParameterCount() == 0);
        int of = BellWaves.class.getModifiers();
        DUE.holds("the class is public and final", Modifier.isPublic(of) && Modifier.isFinal(of));
    }

    public static void main(String[] args) {
        methods();
        members();
        DUE.end();
    }
}
