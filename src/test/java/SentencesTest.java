import java.io.IOException;
import java.nio.file.Files;
import java.nio.file.Path;
import java.util.ArrayList;
import java.util.HashMap;
import java.util.List;
import java.util.Map;
import java.util.regex.MatchResult;
import java.util.regex.Pattern;

/**
 * Holds the words that the tests name against the document: they stand there, and there is a test that
 * names each part of each Returns line, and each argument.
 */
public final class SentencesTest {
    private static final Path DOCUMENT = Path.of("../shared/DOC.md");
    private static final Path TESTS = Path.of("src/test/java");
    private static final String LITERAL = "\"((?:[^\"\\\\]|\\\\.)*)\"";
    private static final Pattern NAMED = Pattern.compile("\\b(?:sentence|range|snails)\\((\\d+), (?:" + LITERAL + "|([A-Z_]+))");
    private static final Pattern CONSTANT = Pattern.compile("String ([A-Z_]+) =\\s+" + LITERAL + ";");
    private static final int PROMISES = 24;

    private record Sentence(int promise, String words) {
    }

    private SentencesTest() {
    }

    public static void main(String[] args) throws IOException {
        if (!Files.exists(DOCUMENT)) {
            System.out.println("there is no " + DOCUMENT + " to hold the tests against");
            return;
        }
        String document = Files.readString(DOCUMENT).replaceAll("\\s+", " ");
        List<Sentence> named = new ArrayList<>();
        for (Path test : tests()) {
            named.addAll(namedIn(Files.readString(test)));
        }
        for (Sentence sentence : named) {
            boolean isThere = section(document, sentence.promise).contains(sentence.words);
            Checks.holds("the document says for " + sentence.promise + ": " + sentence.words, isThere);
        }
        for (int promise = 1; promise <= PROMISES; promise++) {
            returnsAreNamed(promise, section(document, promise), named);
            argumentsAreNamed(promise, section(document, promise), named);
        }
        Checks.end();
    }

    private static List<Path> tests() throws IOException {
        try (var files = Files.list(TESTS)) {
            return files.filter(file -> file.toString().endsWith("Test.java")).sorted().toList();
        }
    }

    private static List<Sentence> namedIn(String source) {
        Map<String, String> constants = new HashMap<>();
        CONSTANT.matcher(source).results().forEach(found -> constants.put(found.group(1), plain(found.group(2))));
        List<Sentence> named = new ArrayList<>();
        for (MatchResult found : NAMED.matcher(source).results().toList()) {
            String words = found.group(2) != null ? plain(found.group(2)) : constants.get(found.group(3));
            named.add(new Sentence(Integer.parseInt(found.group(1)), words));
        }
        return named;
    }

    private static String plain(String literal) {
        return literal.replace("\\\"", "\"");
    }

    /** The part of the document that is about the promise; all of it for 0. */
    private static String section(String document, int promise) {
        if (promise == 0) {
            return document;
        }
        int begin = document.indexOf("## Promise " + promise + ":");
        int end = document.indexOf("## ", begin + 3);
        return document.substring(begin, end);
    }

    private static boolean isNamed(int promise, String words, List<Sentence> named) {
        return named.stream().anyMatch(sentence -> sentence.promise == promise && sentence.words.equals(words));
    }

    private static void returnsAreNamed(int promise, String section, List<Sentence> named) {
        int begin = section.indexOf("Returns ");
        if (begin < 0) {
            Checks.due("promises without a Returns line: the promise", promise, 1);
            return;
        }
        String line = section.substring(begin + "Returns ".length(), section.lastIndexOf('.'));
        for (String part : line.split("; ")) {
            Checks.holds("a test names of promise " + promise + ": " + part, isNamed(promise, part, named));
        }
    }

    private static void argumentsAreNamed(int promise, String section, List<Sentence> named) {
        for (MatchResult found : Pattern.compile("- (`[a-z]+`: )").matcher(section).results().toList()) {
            String row = found.group(1);
            boolean isNamed = named.stream().anyMatch(sentence -> sentence.promise == promise && sentence.words.startsWith(row));
            Checks.holds("a test names of promise " + promise + " the argument " + row, isNamed);
        }
    }
}
