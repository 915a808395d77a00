import java.io.IOException;
import java.nio.file.Files;
import java.nio.file.Path;
import java.util.ArrayList;
import java.util.List;
import java.util.regex.Matcher;
import java.util.regex.Pattern;

/** Reads SENTENCES.md: the document piece by piece, with what keeps each piece and what tests it. */
final class Sentences {
    private static final Path TABLE = Path.of("SENTENCES.md");
    private static final Pattern CODE = Pattern.compile("`([^`]*)`");
    private static final Pattern BREAK = Pattern.compile("- break in `([^`]*)`: `([^`]*)` to `([^`]*)`");

    /** A change of the program that breaks a piece: in the part, this to that. */
    record Break(String part, String from, String to) {
        @Override
        public String toString() {
            return "in " + part + " \"" + from + "\" to \"" + to + "\"";
        }
    }

    /** A piece of the document; why it is not kept or not broken is empty where it is. */
    record Piece(String words, List<String> parts, List<String> tests, List<Break> breaks, String notKept, String notBroken) {
    }

    private final List<Piece> pieces = new ArrayList<>();
    private final StringBuilder words = new StringBuilder();
    private final List<String> parts = new ArrayList<>();
    private final List<String> tests = new ArrayList<>();
    private final List<Break> breaks = new ArrayList<>();
    private String notKept = "";
    private String notBroken = "";

    private Sentences() {
    }

    static List<Piece> all() throws IOException {
        Sentences sentences = new Sentences();
        for (String line : Files.readAllLines(TABLE)) {
            sentences.read(line);
        }
        sentences.endOfPiece();
        return sentences.pieces;
    }

    private void read(String line) {
        if (line.startsWith("> ")) {
            if (!parts.isEmpty() || !tests.isEmpty() || !notKept.isEmpty()) {
                endOfPiece();
            }
            words.append(words.isEmpty() ? "" : " ").append(line.substring(2));
        } else if (line.startsWith("- part: ")) {
            parts.addAll(codes(line));
        } else if (line.startsWith("- test: ")) {
            tests.addAll(codes(line));
        } else if (line.startsWith("- nothing to keep: ")) {
            notKept = line.substring("- nothing to keep: ".length());
        } else if (line.startsWith("- no break: ")) {
            notBroken = line.substring("- no break: ".length());
        } else if (line.startsWith("- break in ")) {
            readBreak(line);
        } else {
            boolean isBeside = line.isEmpty() || line.startsWith("#") || words.isEmpty();
            Checks.holds("the table has a place for the line: " + line, isBeside);
        }
    }

    private void readBreak(String line) {
        Matcher matcher = BREAK.matcher(line);
        boolean isBreak = matcher.matches();
        Checks.holds("the break tells part, this and that: " + line, isBreak);
        if (isBreak) {
            breaks.add(new Break(matcher.group(1), matcher.group(2), matcher.group(3)));
        }
    }

    private static List<String> codes(String line) {
        return CODE.matcher(line).results().map(found -> found.group(1)).toList();
    }

    private void endOfPiece() {
        pieces.add(new Piece(words.toString(), List.copyOf(parts), List.copyOf(tests), List.copyOf(breaks), notKept, notBroken));
        words.setLength(0);
        parts.clear();
        tests.clear();
        breaks.clear();
        notKept = "";
        notBroken = "";
    }
}
