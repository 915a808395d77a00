import java.io.IOException;
import java.nio.file.Files;
import java.nio.file.Path;
import java.util.List;
import java.util.regex.Pattern;

/** The text of SnailTrails.java, where its parts are, and how it reads when one of them is broken. */
final class Program {
    private static final Path SOURCE = Path.of("src/main/java/SnailTrails.java");
    private static final List<String> CLASSES = List.of("Pane", "Race", "History", "WaysUp");

    private Program() {
    }

    static String source() throws IOException {
        return Files.readString(SOURCE);
    }

    /** Another program with the same face has other parts: SENTENCES.md tells nothing of these. */
    static boolean isTheOneTold(String source) {
        return CLASSES.stream().allMatch(name -> source.contains("private static final class " + name + " {"));
    }

    static boolean has(String source, String part) {
        return begin(source, part) >= 0;
    }

    /** The program with the first such words of the part changed; null if the part has none. */
    static String broken(String source, Sentences.Break change) {
        int begin = begin(source, change.part());
        if (begin < 0) {
            return null;
        }
        int at = source.indexOf(change.from(), begin);
        if (at < 0 || at >= end(source, begin)) {
            return null;
        }
        return source.substring(0, at) + change.to() + source.substring(at + change.from().length());
    }

    /** Where the line begins that declares the method, the constructor, the field or the constant. */
    private static int begin(String source, String part) {
        String name = Pattern.quote(part);
        String method = "(?:[a-z]+ )*(?:[A-Za-z]+(?:\\[\\])* )?" + name + "\\([^()]*\\) \\{";
        String field = "(?:private|public) [A-Za-z\\[\\] ]*\\b" + name + "(?: =[^;]*)?;";
        var matcher = Pattern.compile("(?m)^ {4}(?: {4})?(?:" + method + "|" + field + ")$").matcher(source);
        return matcher.find() ? matcher.start() : -1;
    }

    /** A method ends with the brace below its first letter; a field with its line. */
    private static int end(String source, int begin) {
        int endOfLine = source.indexOf('\n', begin);
        if (source.charAt(endOfLine - 1) != '{') {
            return endOfLine;
        }
        int indent = begin;
        while (source.charAt(indent) == ' ') {
            indent++;
        }
        return source.indexOf("\n" + " ".repeat(indent - begin) + "}\n", begin);
    }
}
