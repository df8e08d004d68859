import java.io.IOException;
import java.nio.file.Files;
import java.nio.file.Path;
import java.util.regex.Matcher;
import java.util.regex.Pattern;

/** The rules of LANGUAGE.md that can be seen in the program's text; it is read from the project's folder. */
public final class LanguageTest {
    private static final Due DUE = new Due("LanguageTest");

    /** Comments and constants of texts go: only code is looked at. */
    private static String code() throws IOException {
        String text = Files.readString(Path.of("src/main/java/BellWaves.java"));
        return text.replaceAll("(?s)/\\*.*?\\*/", " ").replaceAll("//[^\n]*", " ")
            .replaceAll("\"[^\"\n]*\"", "\"\"").replaceAll("'[^'\n]*'", "' '");
    }

    private static void none(String code, String what, String pattern) {
        Matcher m = Pattern.compile(pattern).matcher(code);
        boolean found = m.find();
        DUE.holds(what + (found ? " at '" + m.group() + "'" : ""), !found);
    }

    private static void words(String code) {
        none(code, "no forbidden word", "\\b(throw|throws|try|catch|finally|synchronized|assert|package|native|volatile|Object|"
            + "Random|Thread|Runtime|Exact|equals|hashCode|toString|getClass|double|float|var|sealed|yield)\\b");
        none(code, "no lambda and no method reference", "->|::");
        none(code, "no import but Arrays", "import (?!java\\.util\\.Arrays;)");
        none(code, "no library but what is listed", "\\b(System\\.(?!arraycopy)|Arrays\\.(?!(copyOf|copyOfRange|fill)\\b))");
        none(code, "of Integer, Long and Math functions alone", "\\b(Integer|Long|Math)\\.(?!(abs|max|min|bitCount)\\()");
        none(code, "no static state", "static (?!final |boolean |int |void )");
        none(code, "no static block", "static\\s*\\{");
        none(code, "no array of objects in two dimensions", "new [A-Z]\\w*\\[[^\\]]*\\]\\[");
        DUE.is("top classes and classes inside", code.split("\\bclass\\b").length - 1, 12);
    }

    private static void methods(String code) {
        String[] lines = code.split("\n");
        int begin = -1;
        String indent = "";
        for (int i = 0; i < lines.length; i++) {
            Matcher m = Pattern.compile("^(    |        )(?! )[\\w\\[\\] ]*\\w\\(.*\\{$").matcher(lines[i]);
            if (m.find()) {
                begin = i;
                indent = m.group(1);
            }
            if (begin >= 0 && lines[i].equals(indent + "}")) {
                DUE.holds("at most sixty lines from line " + (begin + 1), i - begin < 60);
                begin = -1;
            }
        }
    }

    public static void main(String[] args) throws IOException {
        String code = code();
        words(code);
        methods(code);
        DUE.end();
    }
}
