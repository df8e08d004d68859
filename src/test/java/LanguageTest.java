import java.io.IOException;
import java.lang.reflect.Modifier;
import java.nio.file.Files;
import java.nio.file.Path;
import java.util.ArrayList;
import java.util.Arrays;
import java.util.List;
import java.util.Map;
import java.util.TreeMap;
import java.util.regex.Matcher;
import java.util.regex.Pattern;

/** The rules of LANGUAGE.md that can be seen in the program's text; it is read from the project's folder. */
public final class LanguageTest {
    private static final Due DUE = new Due("LanguageTest");

    /** Comments and constants of texts go: only code is looked at. */
    private static String code() throws IOException {
        String text = Files.readString(Path.of("src/main/java/BellWaves.java"));
        return text.replaceAll("(?s)/\\*.*?\\*/", " ").replaceAll("//[^\n]*", " ")
            .replaceAll("\"[^\"\n]*\"", "\"\"").replaceAll("'[^'\n]*'", "' '");
    }

    private static void none(String code, String what, String pattern) {
        Matcher m = Pattern.compile(pattern, Pattern.MULTILINE).matcher(code);
        boolean found = m.find();
        DUE.holds(what + (found ? " at '" + m.group() + "'" : ""), !found);
    }

    private static void words(String code) {
        none(code, "1: no package", "\\bpackage\\b");
        none(code, "2: no lambda", "^(?!\\s*(case|default)\\b).*->");
        none(code, "2: no method reference", "::");
        none(code, "4: no import but what is listed", "\\bimport (?!java\\.util\\.(Arrays|ArrayList|List|Iterator);)");
        none(code, "4: of System arraycopy alone", "\\bSystem\\.(?!arraycopy\\()");
        none(code, "4: of Arrays three functions alone", "\\bArrays\\.(?!(copyOf|copyOfRange|fill)\\()");
        none(code, "4: of Integer, Long and Math functions over int and long alone", "\\b(Integer|Long|Math)\\.(?![a-z]\\w*\\()");
        none(code, "4: none whose name ends in Exact, no random", "\\b(\\w+Exact|random)\\(");
        none(code, "5: static fields are final", "\\bstatic (?!final\\b)[\\w\\[\\]<> ]+[=;]");
        none(code, "5: no static block", "\\bstatic\\s*\\{");
        none(code, "6: no forbidden word", "\\b(throw|throws|try|catch|finally|synchronized|assert|hashCode|getClass)\\b");
        none(code, "3: no array of objects in two dimensions", "new [A-Z]\\w*\\[[^\\]]*\\]\\[");
        none(code, "13: no clock, no thread, no environment", "\\b(Random|Thread|Runtime|Process|File|Instant)\\b");
        int classes = code.split("\\b(class|record|enum|interface) [A-Z]").length - 1;
        DUE.holds("11: some twelve classes, not " + classes, classes <= 13);
    }

    /** The body of each method under "Class.method". */
    private static Map<String, String> bodies(String code) {
        Pattern inside = Pattern.compile("^    (?! )[\\w ]*\\bclass (\\w+)");
        Pattern whole = Pattern.compile("^(    |        )(?! )[\\w\\[\\] ]*\\b(\\w+)\\(.*\\{$");
        Map<String, String> bodies = new TreeMap<>();
        String[] lines = code.split("\n");
        String owner = "BellWaves";
        String name = "";
        String indent = "";
        int begin = -1;
        for (int i = 0; i < lines.length; i++) {
            Matcher c = inside.matcher(lines[i]);
            Matcher m = whole.matcher(lines[i]);
            if (c.find()) {
                owner = c.group(1);
            } else if (m.find()) {
                begin = i;
                indent = m.group(1);
                name = owner + "." + m.group(2);
            }
            if (begin >= 0 && lines[i].equals(indent + "}")) {
                DUE.holds("11: " + name + " has at most sixty lines", i - begin < 60);
                bodies.merge(name, String.join("\n", Arrays.copyOfRange(lines, begin + 1, i)), String::concat);
                begin = -1;
            }
        }
        return bodies;
    }

    /** What a call within a class can mean: with a dot ahead of it a method of another class, else of its own or of BellWaves. */
    private static List<String> meant(Map<String, String> bodies, String owner, String called, boolean dot) {
        List<String> meant = new ArrayList<>();
        for (String name : bodies.keySet()) {
            boolean own = name.startsWith(owner + ".") || name.startsWith("BellWaves.");
            if (name.endsWith("." + called) && dot != own) {
                meant.add(name);
            }
        }
        return meant;
    }

    /** How deep calls go that begin with one; more than a hundred if they can come to themselves. */
    private static int depth(Map<String, String> bodies, String name, int above) {
        int deepest = 0;
        Matcher m = Pattern.compile("(new |\\.|\\b)(\\w+)\\(").matcher(bodies.get(name));
        while (above < 100 && m.find()) {
            String owner = name.substring(0, name.indexOf('.'));
            for (String next : meant(bodies, owner, m.group(2), m.group(1).equals("."))) {
                deepest = Math.max(deepest, depth(bodies, next, above + 1));
            }
        }
        return 1 + deepest;
    }

    private static void methods(String code) {
        Map<String, String> bodies = bodies(code);
        for (String name : Run.names()) {
            DUE.holds("the body of " + name + "() is found", bodies.containsKey("BellWaves." + name));
            int deep = depth(bodies, "BellWaves." + name, 0);
            DUE.holds("11: calls from " + name + "() go at most eight deep, not " + deep, deep <= 8);
        }
        for (String name : bodies.keySet()) {
            // Rows are made with their objects, and the planner with the first plan: a call that makes more would fill the room.
            boolean may = name.matches("(\\w+)\\.\\1|BellWaves.drawPlans");
            DUE.holds("12: " + name + "() makes nothing", may || !bodies.get(name).matches("(?s).*\\bnew\\b.*"));
        }
    }

    private static void fields() {
        List<Class<?>> all = new ArrayList<>(List.of(BellWaves.class.getDeclaredClasses()));
        all.add(BellWaves.class);
        for (Class<?> c : all) {
            long count = Arrays.stream(c.getDeclaredFields()).filter(f -> !Modifier.isStatic(f.getModifiers())).count();
            DUE.holds("11: " + c + " has some twenty fields, not " + count, count <= 20);
        }
    }

    public static void main(String[] args) throws IOException {
        String code = code();
        words(code);
        methods(code);
        fields();
        DUE.end();
    }
}
