import java.io.PrintWriter;
import java.io.Writer;
import java.net.URL;
import java.net.URLClassLoader;
import java.nio.file.Files;
import java.nio.file.Path;
import java.util.ArrayList;
import java.util.List;
import java.util.regex.Matcher;
import java.util.regex.Pattern;
import javax.tools.JavaCompiler;
import javax.tools.StandardJavaFileManager;
import javax.tools.ToolProvider;

/** The example in README.md compiles, and each of its calls answers what the comment behind it tells. */
public final class ReadmeTest {
    private static final Pattern EXAMPLE = Pattern.compile("(?s)```java\n(.*?)```");
    private static final Pattern ANSWER = Pattern.compile("(pane\\.\\w+\\(.*\\)); +// (-?\\d+).*");

    private ReadmeTest() {
    }

    public static void main(String[] args) throws Exception {
        JavaCompiler compiler = ToolProvider.getSystemJavaCompiler();
        if (compiler == null) {
            System.out.println("there is no compiler for the example");
            return;
        }
        Matcher example = EXAMPLE.matcher(Files.readString(Path.of("README.md")));
        Checks.holds("README.md has an example", example.find());
        List<String> calls = new ArrayList<>();
        List<Integer> due = new ArrayList<>();
        String program = program(example.group(1), calls, due);
        int[] answers = answers(compiler, program);
        Checks.due("answers of the example", answers.length, due.size());
        for (int index = 0; index < due.size(); index++) {
            Checks.due("README.md: " + calls.get(index), answers[index], due.get(index));
        }
        Checks.end();
    }

    /** The example, which keeps each answer that a comment tells. */
    private static String program(String example, List<String> calls, List<Integer> due) {
        StringBuilder program = new StringBuilder("public final class Example {\n"
            + "public static java.util.List<Integer> answers = new java.util.ArrayList<>();\npublic static void run() {\n");
        for (String line : example.split("\n")) {
            Matcher answer = ANSWER.matcher(line);
            if (answer.matches()) {
                calls.add(answer.group(1));
                due.add(Integer.parseInt(answer.group(2)));
                program.append("answers.add(").append(answer.group(1)).append(");\n");
            } else {
                program.append(line).append('\n');
            }
        }
        return program.append("}\n}\n").toString();
    }

    private static int[] answers(JavaCompiler compiler, String program) throws Exception {
        Path room = Files.createTempDirectory("example");
        Path file = Files.writeString(room.resolve("Example.java"), program);
        try (StandardJavaFileManager files = compiler.getStandardFileManager(null, null, null);
             URLClassLoader loader = new URLClassLoader(new URL[] {room.toUri().toURL()})) {
            boolean compiles = compiler.getTask(new PrintWriter(Writer.nullWriter()), files, null,
                List.of("-d", room.toString()), null, files.getJavaFileObjects(file)).call();
            Checks.holds("the example compiles", compiles);
            if (!compiles) {
                return new int[0];
            }
            Class<?> type = loader.loadClass("Example");
            type.getMethod("run").invoke(null);
            List<?> answers = (List<?>) type.getField("answers").get(null);
            return answers.stream().mapToInt(answer -> (Integer) answer).toArray();
        } finally {
            Files.deleteIfExists(room.resolve("Example.class"));
            Files.deleteIfExists(file);
            Files.deleteIfExists(room);
        }
    }
}
