import java.io.IOException;
import java.lang.reflect.Constructor;
import java.lang.reflect.Field;
import java.lang.reflect.Method;
import java.lang.reflect.Modifier;
import java.nio.file.Files;
import java.nio.file.Path;
import java.util.ArrayList;
import java.util.Collections;
import java.util.List;
import java.util.regex.Matcher;
import java.util.regex.Pattern;

/** The public face is the document's, and nothing else of the class can be seen from outside. */
public final class FaceTest {
    private static final Due DUE = new Due("FaceTest");

    /** The document's block of Java, each method as "name(kinds)". */
    private static List<String> face() {
        String block = Run.document().split("```java\n", 2)[1].split("```", 2)[0];
        List<String> face = new ArrayList<>();
        Matcher m = Pattern.compile("public int (\\w+)\\((.*)\\);").matcher(block);
        while (m.find()) {
            face.add(m.group(1) + "(" + m.group(2).replaceAll("(\\w+) \\w+", "$1") + ")");
        }
        return face;
    }

    private static String told(Method m) {
        List<String> kinds = new ArrayList<>();
        for (Class<?> c : m.getParameterTypes()) {
            kinds.add(c.getName());
        }
        return m.getName() + "(" + String.join(", ", kinds) + ")";
    }

    private static void methods() {
        List<String> seen = new ArrayList<>();
        List<String> names = new ArrayList<>();
        for (Method m : BellWaves.class.getDeclaredMethods()) {
            if (Modifier.isPublic(m.getModifiers())) {
                seen.add(told(m));
                names.add(m.getName());
                DUE.holds(m + " answers an int", m.getReturnType() == int.class && !Modifier.isStatic(m.getModifiers()));
            } else {
                DUE.holds(m + " is private", Modifier.isPrivate(m.getModifiers()));
            }
        }
        List<String> due = face();
        DUE.is("methods of the document's face", due.size(), 37);
        Collections.sort(due);
        Collections.sort(seen);
        DUE.holds("the public methods are " + due + " and not " + seen, due.equals(seen));
        noNamesakes(BellWaves.class, names);
        for (Class<?> inside : BellWaves.class.getDeclaredClasses()) {
            noNamesakes(inside, names);
            DUE.holds(inside + " is static", Modifier.isStatic(inside.getModifiers()));
            DUE.holds(inside + " is not public", !Modifier.isPublic(inside.getModifiers()));
        }
    }

    private static void noNamesakes(Class<?> c, List<String> names) {
        for (Method m : c.getDeclaredMethods()) {
            if (Modifier.isPrivate(m.getModifiers())) {
                DUE.holds(m + " has a name of its own", !names.contains(m.getName()));
            }
            DUE.holds(m + " takes at most seven", m.getParameterCount() <= 7);
        }
    }

    private static void members() {
        for (Field f : BellWaves.class.getDeclaredFields()) {
            DUE.holds(f + " is private", Modifier.isPrivate(f.getModifiers()));
            DUE.holds(f + " is final if it is static", !Modifier.isStatic(f.getModifiers()) || Modifier.isFinal(f.getModifiers()));
        }
        Constructor<?>[] all = BellWaves.class.getDeclaredConstructors();
        DUE.is("constructors", all.length, 1);
        DUE.holds("the constructor is public and asks for nothing",
            Modifier.isPublic(all[0].getModifiers()) && all[0].getParameterCount() == 0);
        int of = BellWaves.class.getModifiers();
        DUE.holds("the class is public and final", Modifier.isPublic(of) && Modifier.isFinal(of));
    }

    /** "Ahead of the calls .. the interface says: ---- .": the class says it ahead of these methods, in the face's order. */
    private static void headings() throws IOException {
        String document = Run.document();
        StringBuilder due = new StringBuilder();
        Matcher m = Pattern.compile("Ahead of the calls (.*) the interface says: (---- .*)\\.").matcher(document);
        while (m.find()) {
            due.append(m.group(2)).append('\n').append(m.group(1).replace("`", "").replace(", ", "\n")).append('\n');
        }
        StringBuilder seen = new StringBuilder();
        String text = Files.readString(Path.of("src/main/java/BellWaves.java"));
        m = Pattern.compile("^    (?:// (---- .*)|public int (\\w+)\\(.*)$", Pattern.MULTILINE).matcher(text);
        while (m.find()) {
            seen.append(m.group(1) == null ? m.group(2) : m.group(1)).append('\n');
        }
        DUE.holds("the class begins with '" + due + "' and not '" + seen + "'",
            due.length() > 0 && seen.toString().startsWith(due.toString()));
    }

    public static void main(String[] args) throws IOException {
        methods();
        members();
        headings();
        DUE.end();
    }
}
