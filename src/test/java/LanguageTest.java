import java.io.IOException;
import java.nio.file.Files;
import java.nio.file.Path;
import java.util.regex.Matcher;
import java.util.regex.Pattern;

/** The rules of LANGUAGE.md that can be seen in the program's text; it is read from the project's folder. */
public final class LanguageTest {
    private static final Due DUE = new Due("LanguageTest");

    /** Comments and constants of texts go: only code is looked at. */
    private static String code() throws IOException {
        String text = Files.readString(Path.of("src/main/java/BellWaves.java"));
        return text.replaceAll("(?s)/\\*.*?\\*/", " ").replaceAll("//[^\n]*", " ")
            .replaceAll("\"[^\"\n]*\"", "\"\"").replaceAll("'[^'\n]*'", "' '");
    }

    private static void none(String code, String what, String pattern) {
        Matcher m = Pattern.compile(pattern, Pattern.MULTILINE).matcher(code);
        boolean found = m.find();
        DUE.holds(what + (found ? " at '" + m.group() + "'" : ""), !found);
    }

    private static void words(String code) {
        none(code, "1: no package", "\\bpackage\\b");
        none(code, "2: no lambda", "^(?!\\s*(case|default)\\b).*->");
        none(code, "2: no method reference", "::");
        none(code, "4: no import but what is listed", "\\bimport (?!java\\.util\\.(Arrays|ArrayList|List|Iterator);)");
        none(code, "4: of System arraycopy alone", "\\bSystem\\.(?!arraycopy\\()");
        none(code, "4: of Arrays three functions alone", "\\bArrays\\.(?!(copyOf|copyOfRange|fill)\\()");
        none(code, "4: of Integer, Long and Math functions over int and long alone", "\\b(Integer|Long|Math)\\.(?![a-z]\\w*\\()");
        none(code, "4: none whose name ends in Exact, no random", "\\b(\\w+Exact|random)\\(");
        none(code, "5: static fields are final", "\\bstatic (?!final\\b)[\\w\\[\\]<> ]+[=;]");
        none(code, "5: no static block", "\\bstatic\\s*\\{");
        none(code, "6: no forbidden word", "\\b(throw|throws|try|catch|finally|synchronized|assert|hashCode|getClass)\\b");
        none(code, "3: no array of objects in two dimensions", "new [A-Z]\\w*\\[[^\\]]*\\]\\[");
        none(code, "13: no clock, no thread, no environment", "\\b(Random|Thread|Runtime|Process|File|Instant)\\b");
        int classes = code.split("\\b(class|record|enum|interface) [A-Z]").length - 1;
        DUE.holds("11: some twelve classes, not " + classes, classes <= 13);
    }

    private static void methods(String code) {
        String[] lines = code.split("\n");
        int begin = -1;
        String indent = "";
        for (int i = 0; i < lines.length; i++) {
            Matcher m = Pattern.compile("^(    |        )(?! )[\\w\\[\\] ]*\\w\\(.*\\{$").matcher(lines[i]);
            if (m.find()) {
                begin = i;
                indent = m.group(1);
            }
            if (begin >= 0 && lines[i].equals(indent + "}")) {
                DUE.holds("at most sixty lines from line " + (begin + 1), i - begin < 60);
                begin = -1;
            }
        }
    }

    public static void main(String[] args) throws IOException {
        String code = code();
        words(code);
        methods(code);
        DUE.end();
    }
}
