import java.io.IOException;
import java.lang.reflect.InvocationTargetException;
import java.lang.reflect.Method;
import java.lang.reflect.Modifier;
import java.nio.file.Files;
import java.nio.file.Path;
import java.util.ArrayList;
import java.util.HashMap;
import java.util.List;
import java.util.Map;
import java.util.Set;

/**
 * A run of calls on a new object for one sentence of the document, told in rows: "street(0, 1, 20) = 0; far(0, 1) = 20".
 * A row without an answer is done and not looked at. MIN and MAX are the ends of int, LEAST and MOST those of long.
 * Where the answer is a finding's word (BEYOND, .., WRONG 3), the call must also be counted once by told(6) and change nothing.
 */
final class Run {
    /** The document promises nothing behind so many calls, so no test may make more. */
    static final int MOST_CALLS = 512;

    /** Calls that looking at an object makes beside those that it shows. */
    private static final int OWN_CALLS = 20;
    private static final Map<String, Method> FACE = face();
    private static final Map<String, Integer> WORDS = Map.of("BEYOND", Due.BEYOND, "FULL", Due.FULL, "KIND", Due.KIND,
        "NONE", Due.NONE, "MISSING", Due.MISSING, "SIZE", Due.SIZE);
    private static final String DOCUMENT = document();

    private final Due due;
    private final String sentence;
    private final BellWaves x = new BellWaves();
    private final List<String> done = new ArrayList<>();

    Run(Due due, String sentence) {
        this.due = due;
        this.sentence = sentence;
    }

    /** The sentence must stand in the document, word for word, and all rows must answer as they say. */
    static void holds(Due due, String sentence, String... rows) {
        due.holds("the document has '" + sentence + "'", DOCUMENT.contains(sentence));
        Run run = new Run(due, sentence);
        for (String row : String.join(";", rows).split("[;\n]")) {
            if (!row.isBlank()) {
                run.take(row.trim());
            }
        }
    }

    private void take(String row) {
        int sign = row.lastIndexOf('=');
        String call = sign < 0 ? row : row.substring(0, sign).trim();
        int got = ask(x, call);
        if (sign >= 0) {
            String answer = row.substring(sign + 1).trim();
            due.is(told(call), got, number(answer));
            if (WORDS.containsKey(answer) || answer.startsWith("WRONG")) {
                leavesAll(call);
            }
        }
        done.add(call);
        due.holds(told(call) + " is among the first " + MOST_CALLS, done.size() <= MOST_CALLS);
    }

    /** Makes a call whose answer is not known ahead: it counts one finding at most, and changes nothing if it counts one. */
    void tries(String call) {
        int before = x.told(6);
        ask(x, call);
        int counted = x.told(6) - before;
        due.holds(told(call) + " counts one finding at most", counted == 0 || counted == 1);
        if (counted == 1) {
            leavesAll(call);
        }
        done.add(call);
    }

    /** Two objects with the same calls behind them, one of which is asked things ahead of each change: both are the same. */
    static void asksBetween(Due due, String title, List<String> built, List<String> changes, String... questions) {
        Run asked = new Run(due, title);
        Run other = new Run(due, title);
        for (String call : built) {
            asked.makes(call);
            other.makes(call);
        }
        for (String call : changes) {
            for (String question : questions) {
                asked.makes(question);
            }
            due.is(other.told(call) + " behind questions", asked.makes(call), other.makes(call));
        }
        List<String> wanted = Seen.of(other.x, true);
        same(due, title + ": asking between " + other.done, Seen.of(asked.x, true), wanted);
        asked.staysBelowLimit(wanted.size());
    }

    private int makes(String call) {
        done.add(call);
        return ask(x, call);
    }

    private void staysBelowLimit(int looks) {
        due.holds(sentence + ": few enough calls are made", done.size() + OWN_CALLS + looks <= MOST_CALLS);
    }

    private static void same(Due due, String what, List<String> seen, List<String> wanted) {
        String first = "";
        for (int i = 0; i < wanted.size() && first.isEmpty(); i++) {
            if (i >= seen.size() || !seen.get(i).equals(wanted.get(i))) {
                first = (i < seen.size() ? seen.get(i) : "nothing") + " in place of " + wanted.get(i);
            }
        }
        due.holds(what + " changes nothing, but: " + first, first.isEmpty() && seen.size() == wanted.size());
    }

    private String told(String call) {
        return "'" + sentence + "' call " + done.size() + " " + call;
    }

    /** Two objects with the same calls behind them, one of which is refused something: all else is the same. */
    private void leavesAll(String call) {
        BellWaves refused = again();
        BellWaves other = again();
        ask(refused, call);
        due.is(told(call) + " is counted", refused.told(6), other.told(6) + 1);
        // Only text() changes something with its finding: the tape is empty, as it is behind a text() of its own.
        boolean tapeGoes = call.equals("text()");
        List<String> wanted = Seen.of(other, !tapeGoes);
        same(due, told(call), Seen.of(refused, !tapeGoes), wanted);
        staysBelowLimit(wanted.size());
    }

    private BellWaves again() {
        BellWaves y = new BellWaves();
        for (String call : done) {
            ask(y, call);
        }
        return y;
    }

    private static int number(String answer) {
        if (answer.startsWith("WRONG")) {
            return Due.WRONG - Integer.parseInt(answer.substring(5).trim());
        }
        return WORDS.containsKey(answer) ? WORDS.get(answer) : whole(answer).intValue();
    }

    private static Long whole(String word) {
        switch (word) {
            case "MIN": return (long) Integer.MIN_VALUE;
            case "MAX": return (long) Integer.MAX_VALUE;
            case "LEAST": return Long.MIN_VALUE;
            case "MOST": return Long.MAX_VALUE;
            default: return Long.valueOf(word);
        }
    }

    private static int ask(BellWaves x, String call) {
        int open = call.indexOf('(');
        Method m = FACE.get(call.substring(0, open));
        String inside = call.substring(open + 1, call.length() - 1).trim();
        String[] words = inside.isEmpty() ? new String[0] : inside.split(",");
        Object[] args = new Object[words.length];
        for (int i = 0; i < words.length; i++) {
            String word = words[i].trim();
            Class<?> kind = m.getParameterTypes()[i];
            if (kind == boolean.class) {
                args[i] = word.equals("true");
            } else {
                long v = whole(word);
                args[i] = kind == long.class ? (Object) v : (Object) Math.toIntExact(v);
            }
        }
        try {
            return (Integer) m.invoke(x, args);
        } catch (IllegalAccessException | InvocationTargetException e) {
            throw new IllegalStateException(call, e);
        }
    }

    private static Map<String, Method> face() {
        Map<String, Method> face = new HashMap<>();
        for (Method m : BellWaves.class.getDeclaredMethods()) {
            if (Modifier.isPublic(m.getModifiers())) {
                face.put(m.getName(), m);
            }
        }
        return face;
    }

    /** The names of all public methods. */
    static Set<String> names() {
        return FACE.keySet();
    }

    static String document() {
        try {
            return Files.readString(Path.of("../shared/DOC.md"));
        } catch (IOException e) {
            throw new IllegalStateException(e);
        }
    }

    // ---- rows that many runs begin with

    /** So many corners, without streets. */
    static String corners(int n) {
        return "corner(); ".repeat(n);
    }

    /** So many corners in a row, each one and the next joined by a street: street c joins c and c + 1. */
    static String line(int corners, int minutes) {
        StringBuilder rows = new StringBuilder(corners(corners));
        for (int c = 1; c < corners; c++) {
            rows.append("street(").append(c - 1).append(", ").append(c).append(", ").append(minutes).append("); ");
        }
        return rows.toString();
    }

    /** The same row so many times, # being the number of the time, from 0 on. */
    static String times(int n, String row) {
        StringBuilder rows = new StringBuilder();
        for (int i = 0; i < n; i++) {
            rows.append(row.replace("#", Integer.toString(i))).append("; ");
        }
        return rows.toString();
    }

    /** Feeds a text of signs from 0 to 255. */
    static String tape(String text) {
        StringBuilder rows = new StringBuilder();
        for (int at = 0; at < text.length(); at += 8) {
            int n = Math.min(8, text.length() - at);
            long w = 0;
            for (int i = n - 1; i >= 0; i--) {
                w = w << 8 | text.charAt(at + i);
            }
            rows.append("feed(").append(w).append(", ").append(n).append("); ");
        }
        return rows.toString();
    }
}
