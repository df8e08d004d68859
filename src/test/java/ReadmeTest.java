import java.io.File;
import java.io.IOException;
import java.net.URL;
import java.net.URLClassLoader;
import java.nio.file.Files;
import java.nio.file.Path;
import java.util.ArrayList;
import java.util.List;
import java.util.Set;
import java.util.TreeSet;
import java.util.regex.Matcher;
import java.util.regex.Pattern;
import javax.tools.JavaCompiler;
import javax.tools.ToolProvider;

/**
 * What README.md shows is so: its Java rows are compiled as one program, and each call in them answers the number that
 * stands behind it; its findings are the document's; it names the tests that there are, and no other.
 */
public final class ReadmeTest {
    private static final Due DUE = new Due("ReadmeTest");

    /** A call, perhaps kept under a name, and behind it the answer and, where that is a finding, its word. */
    private static final Pattern SHOWN = Pattern.compile(
        "(?<kept>(?:int \\w+ = )?)(?<call>x\\.(?<name>\\w+)\\([^;]*\\)); +// (?<answer>-?\\d+)(?:: (?<word>[A-Z]+)\\b.*|: .*|)");
    private static final Pattern FINDING = Pattern.compile("\\| (-10\\d+) \\| ([A-Z]+) \\|.*");

    private final List<String> program = new ArrayList<>();
    private final Set<String> called = new TreeSet<>();
    private int calls;

    /** The rows of README.md that are compiled call this with each answer. */
    public static int answers(String row, int got, int due) {
        DUE.is("README.md: " + row, got, due);
        return got;
    }

    private static List<String> rows() throws IOException {
        return Files.readAllLines(Path.of("README.md"));
    }

    /** The rows within the fences of one language, those of all blocks one behind the other. */
    private static List<String> fenced(List<String> rows, String language) {
        List<String> inside = new ArrayList<>();
        boolean within = false;
        for (String row : rows) {
            if (row.startsWith("```")) {
                within = !within && row.equals("```" + language);
            } else if (within) {
                inside.add(row);
            }
        }
        return inside;
    }

    private void take(String row) {
        Matcher m = SHOWN.matcher(row.trim());
        if (!m.matches()) {
            // A call that this test could not look at would be shown without being tested.
            DUE.holds("README.md has a call with its answer in '" + row + "'", !row.contains("x.") && !row.contains("//"));
            program.add(row);
            return;
        }
        calls++;
        called.add(m.group("name"));
        int answer = Integer.parseInt(m.group("answer"));
        DUE.holds("README.md names the finding in '" + row + "'", saysFinding(answer, m.group("word")));
        program.add(m.group("kept") + "ReadmeTest.answers(\"" + m.group("call").replace("\"", "\\\"") + "\", "
            + m.group("call") + ", " + answer + ");");
    }

    private static boolean saysFinding(int answer, String word) {
        if (answer >= -1000000) {
            return true;
        }
        String due = answer <= Due.WRONG ? Due.WRONG + " WRONG" : answer + " " + word;
        return word != null && due.endsWith(word) && Run.document().contains(due);
    }

    private void compileAndRun() throws IOException, ReflectiveOperationException {
        Path folder = Files.createTempDirectory("readme");
        Path file = folder.resolve("Shown.java");
        try {
            Files.writeString(file, "public class Shown {\npublic static void run() {\n" + String.join("\n", program) + "\n}\n}\n");
            JavaCompiler compiler = ToolProvider.getSystemJavaCompiler();
            int code = compiler.run(null, null, null, "-Xlint:all", "-Werror", "-cp", System.getProperty("java.class.path"),
                "-d", folder.toString(), file.toString());
            DUE.is("README.md: compiling its rows", code, 0);
            if (code == 0) {
                runFrom(folder);
            }
        } finally {
            deleteAll(folder);
        }
    }

    private static void runFrom(Path folder) throws IOException, ReflectiveOperationException {
        URL[] places = {folder.toUri().toURL()};
        try (URLClassLoader loader = new URLClassLoader(places, ReadmeTest.class.getClassLoader())) {
            loader.loadClass("Shown").getMethod("run").invoke(null);
        }
    }

    private static void deleteAll(Path folder) throws IOException {
        File[] files = folder.toFile().listFiles();
        for (File f : files == null ? new File[0] : files) {
            Files.delete(f.toPath());
        }
        Files.delete(folder);
    }

    private static void use() throws IOException, ReflectiveOperationException {
        ReadmeTest shown = new ReadmeTest();
        for (String row : fenced(rows(), "java")) {
            shown.take(row);
        }
        DUE.holds("README.md shows every call, not only " + shown.called, shown.called.equals(new TreeSet<>(Run.names())));
        DUE.holds("README.md makes few enough calls", shown.calls <= Run.MOST_CALLS);
        shown.compileAndRun();
    }

    /** The table of findings has those of the document's sentence, each with its number, and no other. */
    private static void findings() throws IOException {
        Set<String> table = new TreeSet<>();
        for (String row : rows()) {
            Matcher m = FINDING.matcher(row);
            if (m.matches()) {
                table.add(m.group(1) + " " + m.group(2));
            }
        }
        Set<String> due = new TreeSet<>();
        Matcher m = Pattern.compile("-10\\d+ [A-Z]+").matcher(Run.document());
        while (m.find()) {
            due.add(m.group());
        }
        DUE.holds("README.md's findings are " + due + " and not " + table, table.equals(due) && !due.isEmpty());
    }

    private static void tests() throws IOException {
        Set<String> table = new TreeSet<>();
        for (String row : rows()) {
            if (row.startsWith("| ") && row.contains("Test")) {
                Matcher m = Pattern.compile("\\w+Test\\b").matcher(row.substring(0, row.indexOf('|', 1)));
                while (m.find()) {
                    table.add(m.group());
                }
            }
        }
        Set<String> due = new TreeSet<>();
        String[] files = Path.of("src/test/java").toFile().list();
        for (String name : files == null ? new String[0] : files) {
            if (name.endsWith("Test.java")) {
                due.add(name.substring(0, name.length() - 5));
            }
        }
        DUE.holds("README.md's tests are " + due + " and not " + table, table.equals(due));
        DUE.holds("README.md says how the tests are run, and that can be run",
            fenced(rows(), "sh").contains(".ci/run") && Files.isExecutable(Path.of(".ci/run")));
    }

    public static void main(String[] args) throws IOException, ReflectiveOperationException {
        use();
        findings();
        tests();
        DUE.end();
    }
}
