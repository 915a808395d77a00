import java.io.File;
import java.io.IOException;
import java.io.OutputStream;
import java.io.PrintStream;
import java.io.PrintWriter;
import java.io.Writer;
import java.lang.reflect.InvocationTargetException;
import java.lang.reflect.Method;
import java.net.URL;
import java.net.URLClassLoader;
import java.nio.file.Files;
import java.nio.file.Path;
import java.util.ArrayList;
import java.util.Comparator;
import java.util.HashSet;
import java.util.List;
import java.util.Set;
import java.util.concurrent.Callable;
import java.util.concurrent.ExecutorService;
import java.util.concurrent.Executors;
import java.util.concurrent.Future;
import javax.tools.JavaCompiler;
import javax.tools.StandardJavaFileManager;
import javax.tools.ToolProvider;

/**
 * Tests the tests: for each piece of the document in SENTENCES.md the program is broken as it tells there,
 * break by break; of the tests told for the piece one fails at least, and none of them never.
 */
public final class BreaksTest {
    private static final JavaCompiler COMPILER = ToolProvider.getSystemJavaCompiler();
    /** One for each worker, who uses it again and again: to make one takes longer than to compile. */
    private static final ThreadLocal<StandardJavaFileManager> FILES =
        ThreadLocal.withInitial(() -> COMPILER.getStandardFileManager(null, null, null));

    /** The tests of the piece that fail when the program is broken so; why it was not tried, if it was not. */
    private record Outcome(Sentences.Piece piece, Sentences.Break change, Set<String> failing, String untried) {
    }

    private BreaksTest() {
    }

    public static void main(String[] args) throws Exception {
        String source = Program.source();
        if (COMPILER == null || !Program.isTheOneTold(source)) {
            System.out.println("nothing is broken: there is no compiler, or the program is another one");
            return;
        }
        Path room = Files.createTempDirectory("breaks");
        PrintStream out = System.out;
        System.setOut(new PrintStream(OutputStream.nullOutputStream()));
        try {
            List<Outcome> outcomes = outcomes(Sentences.all(), source, room);
            System.setOut(out);
            look(outcomes);
        } finally {
            System.setOut(out);
            remove(room);
        }
        Checks.end();
    }

    private static List<Outcome> outcomes(List<Sentences.Piece> pieces, String source, Path room) throws Exception {
        ExecutorService workers = Executors.newFixedThreadPool(Runtime.getRuntime().availableProcessors());
        List<Callable<Outcome>> tasks = new ArrayList<>();
        for (Sentences.Piece piece : pieces) {
            for (Sentences.Break change : piece.breaks()) {
                Path classes = Files.createDirectory(room.resolve(String.valueOf(tasks.size())));
                tasks.add(() -> outcome(piece, change, source, classes));
            }
        }
        List<Outcome> outcomes = new ArrayList<>();
        try {
            for (Future<Outcome> outcome : workers.invokeAll(tasks)) {
                outcomes.add(outcome.get());
            }
        } finally {
            workers.shutdown();
        }
        return outcomes;
    }

    private static Outcome outcome(Sentences.Piece piece, Sentences.Break change, String source, Path classes) throws Exception {
        String broken = Program.broken(source, change);
        if (broken == null) {
            return new Outcome(piece, change, Set.of(), "the part has no such words");
        }
        if (!compiles(broken, classes)) {
            return new Outcome(piece, change, Set.of(), "the broken program does not compile");
        }
        Set<String> failing = new HashSet<>();
        for (String test : piece.tests()) {
            if (fails(test, classes)) {
                failing.add(test);
            }
        }
        return new Outcome(piece, change, failing, "");
    }

    private static boolean compiles(String broken, Path classes) throws IOException {
        Path file = classes.resolve("SnailTrails.java");
        Files.writeString(file, broken);
        StandardJavaFileManager files = FILES.get();
        return COMPILER.getTask(new PrintWriter(Writer.nullWriter()), files, null, List.of("-proc:none", "-d", classes.toString()),
            null, files.getJavaFileObjects(file)).call();
    }

    /** The test's classes are loaded anew, since they count what is wrong, and meet the broken program. */
    private static boolean fails(String test, Path classes) throws Exception {
        List<URL> places = new ArrayList<>(List.of(classes.toUri().toURL()));
        for (String place : System.getProperty("java.class.path").split(File.pathSeparator)) {
            places.add(Path.of(place).toUri().toURL());
        }
        int dot = test.indexOf('.');
        try (URLClassLoader loader = new URLClassLoader(places.toArray(new URL[0]), ClassLoader.getPlatformClassLoader())) {
            Method method = method(loader, test.substring(0, dot), test.substring(dot + 1));
            try {
                method.invoke(null);
            } catch (InvocationTargetException thrown) {
                return true;
            }
            return (int) method(loader, "Checks", "wrong").invoke(null) > 0;
        }
    }

    private static Method method(ClassLoader loader, String type, String name) throws ReflectiveOperationException {
        Method method = loader.loadClass(type).getDeclaredMethod(name);
        method.setAccessible(true);
        return method;
    }

    private static void look(List<Outcome> outcomes) {
        Set<String> everFailing = new HashSet<>();
        for (Outcome outcome : outcomes) {
            String words = outcome.piece.words();
            Checks.holds(words + " is broken " + outcome.change + ": " + outcome.untried, outcome.untried.isEmpty());
            Checks.holds("of " + outcome.piece.tests() + " one fails for \"" + words + "\" broken " + outcome.change,
                !outcome.failing.isEmpty() || !outcome.untried.isEmpty());
            outcome.failing.forEach(test -> everFailing.add(words + test));
        }
        for (Outcome outcome : outcomes) {
            for (String test : outcome.piece.tests()) {
                Checks.holds(test + " fails for a break of \"" + outcome.piece.words() + "\"",
                    everFailing.contains(outcome.piece.words() + test));
            }
        }
    }

    private static void remove(Path room) throws IOException {
        try (var files = Files.walk(room)) {
            for (Path file : files.sorted(Comparator.reverseOrder()).toList()) {
                Files.delete(file);
            }
        }
    }
}
