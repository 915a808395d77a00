import java.io.IOException;
import java.nio.file.Files;
import java.nio.file.Path;
import java.util.ArrayList;
import java.util.HashMap;
import java.util.List;
import java.util.Map;
import java.util.regex.MatchResult;
import java.util.regex.Pattern;

/**
 * Holds the words that the tests name against the document: they stand there, and there is a test that
 * names each part of each Returns line, and each argument. And holds SENTENCES.md against the document, the
 * program and the tests: no piece is left out, and the parts and the tests that it tells of are there.
 */
public final class SentencesTest {
    private static final Path DOCUMENT = Path.of("../shared/DOC.md");
    private static final Path TESTS = Path.of("src/test/java");
    private static final String LITERAL = "\"((?:[^\"\\\\]|\\\\.)*)\"";
    private static final Pattern NAMED = Pattern.compile("\\b(?:sentence|range|snails)\\((\\d+), (?:" + LITERAL + "|([A-Z_]+))");
    private static final Pattern CONSTANT = Pattern.compile("String ([A-Z_]+) =\\s+" + LITERAL + ";");
    private static final int PROMISES = 24;

    private record Sentence(int promise, String words) {
    }

    private SentencesTest() {
    }

    public static void main(String[] args) throws IOException {
        List<Sentences.Piece> pieces = Sentences.all();
        partsAreThere(pieces);
        testsAreThere(pieces);
        if (Files.exists(DOCUMENT)) {
            piecesAreTheDocument(pieces);
            wordsAreOfTheDocument();
        } else {
            System.out.println("there is no " + DOCUMENT + " to hold the tests against");
        }
        Checks.end();
    }

    private static void partsAreThere(List<Sentences.Piece> pieces) throws IOException {
        String source = Program.source();
        if (!Program.isTheOneTold(source)) {
            System.out.println("SENTENCES.md tells of the parts of another program");
            return;
        }
        for (Sentences.Piece piece : pieces) {
            Checks.holds("a part keeps: " + piece.words(), piece.parts().isEmpty() != piece.notKept().isEmpty());
            for (String part : piece.parts()) {
                Checks.holds("the program has the part " + part, Program.has(source, part));
            }
        }
    }

    private static void testsAreThere(List<Sentences.Piece> pieces) throws IOException {
        for (Sentences.Piece piece : pieces) {
            boolean isTested = !piece.tests().isEmpty() || piece.parts().isEmpty();
            Checks.holds("a test is told for: " + piece.words(), isTested);
            boolean isBroken = !piece.breaks().isEmpty() || !piece.notBroken().isEmpty() || piece.parts().isEmpty();
            Checks.holds("a break is told for: " + piece.words(), isBroken);
            for (String test : piece.tests()) {
                Checks.holds("there is a test " + test + " that is run", isRun(test));
            }
        }
    }

    /** A test that its class does not call in its main method would never fail. */
    private static boolean isRun(String test) throws IOException {
        int dot = test.indexOf('.');
        Path file = TESTS.resolve(test.substring(0, dot) + ".java");
        String method = test.substring(dot + 1);
        if (!Files.exists(file)) {
            return false;
        }
        String source = Files.readString(file);
        String main = source.substring(source.indexOf("void main("), source.indexOf("\n    }\n", source.indexOf("void main(")));
        return main.contains(" " + method + "();") && source.contains(" void " + method + "() ");
    }

    /** Headings, among them the lines in capitals, are no pieces; the code is told in one word. */
    private static void piecesAreTheDocument(List<Sentences.Piece> pieces) throws IOException {
        String document = Files.readString(DOCUMENT).replaceAll("(?s)```java.*?```", "(the face)")
            .replaceAll("(?m)^#.*$", "").replaceAll("(?m)^[A-Z ]+$", "").replaceAll("\\s+", " ").trim();
        int at = 0;
        for (Sentences.Piece piece : pieces) {
            boolean isNext = document.startsWith(piece.words(), at);
            Checks.holds("the document goes on with: " + piece.words() + ", and not: "
                + document.substring(at, Math.min(at + 60, document.length())), isNext);
            if (!isNext) {
                return;
            }
            at = Math.min(at + piece.words().length() + 1, document.length());
        }
        Checks.due("characters of the document without a piece", document.length() - at, 0);
    }

    private static void wordsAreOfTheDocument() throws IOException {
        String document = Files.readString(DOCUMENT).replaceAll("\\s+", " ");
        List<Sentence> named = new ArrayList<>();
        for (Path test : tests()) {
            named.addAll(namedIn(Files.readString(test)));
        }
        for (Sentence sentence : named) {
            boolean isThere = section(document, sentence.promise).contains(sentence.words);
            Checks.holds("the document says for " + sentence.promise + ": " + sentence.words, isThere);
        }
        for (int promise = 1; promise <= PROMISES; promise++) {
            returnsAreNamed(promise, section(document, promise), named);
            argumentsAreNamed(promise, section(document, promise), named);
        }
    }

    private static List<Path> tests() throws IOException {
        try (var files = Files.list(TESTS)) {
            return files.filter(file -> file.toString().endsWith("Test.java")).sorted().toList();
        }
    }

    private static List<Sentence> namedIn(String source) {
        Map<String, String> constants = new HashMap<>();
        CONSTANT.matcher(source).results().forEach(found -> constants.put(found.group(1), plain(found.group(2))));
        List<Sentence> named = new ArrayList<>();
        for (MatchResult found : NAMED.matcher(source).results().toList()) {
            String words = found.group(2) != null ? plain(found.group(2)) : constants.get(found.group(3));
            named.add(new Sentence(Integer.parseInt(found.group(1)), words));
        }
        return named;
    }

    private static String plain(String literal) {
        return literal.replace("\\\"", "\"");
    }

    /** The part of the document that is about the promise; all of it for 0. */
    private static String section(String document, int promise) {
        if (promise == 0) {
            return document;
        }
        int begin = document.indexOf("## Promise " + promise + ":");
        int end = document.indexOf("## ", begin + 3);
        return document.substring(begin, end);
    }

    private static boolean isNamed(int promise, String words, List<Sentence> named) {
        return named.stream().anyMatch(sentence -> sentence.promise == promise && sentence.words.equals(words));
    }

    private static void returnsAreNamed(int promise, String section, List<Sentence> named) {
        int begin = section.indexOf("Returns ");
        if (begin < 0) {
            Checks.due("promises without a Returns line: the promise", promise, 1);
            return;
        }
        String line = section.substring(begin + "Returns ".length(), section.lastIndexOf('.'));
        for (String part : line.split("; ")) {
            Checks.holds("a test names of promise " + promise + ": " + part, isNamed(promise, part, named));
        }
    }

    private static void argumentsAreNamed(int promise, String section, List<Sentence> named) {
        for (MatchResult found : Pattern.compile("- (`[a-z]+`: )").matcher(section).results().toList()) {
            String row = found.group(1);
            boolean isNamed = named.stream().anyMatch(sentence -> sentence.promise == promise && sentence.words.startsWith(row));
            Checks.holds("a test names of promise " + promise + " the argument " + row, isNamed);
        }
    }
}
