import com.sun.management.ThreadMXBean;
import java.io.IOException;
import java.lang.management.ManagementFactory;
import java.lang.reflect.Field;
import java.lang.reflect.Method;
import java.lang.reflect.Modifier;
import java.nio.file.Files;
import java.nio.file.Path;
import java.util.Arrays;
import java.util.HashSet;
import java.util.List;
import java.util.Set;
import java.util.TreeSet;
import java.util.regex.Matcher;
import java.util.regex.Pattern;

/** The public face, the rules of LANGUAGE.md that can be seen from outside, and what calls allocate. */
public final class LanguageTest {
    private static final String SOURCE = "src/main/java/SnailTrails.java";
    private static final Set<String> FACE = Set.of("int setSnail(int, int)", "int takeOff(int)",
        "int setFrost(int, int, int)", "int set(int, int)", "int pass(int)", "int type(char)", "int clearText()",
        "int perform()", "int stopped(int)", "int undo()", "int keep()", "int restore()", "int snail(int, int)",
        "int cell(int, int, int)", "int cost(int, int)", "int does(int)", "int reason(int, int, int)",
        "int endsIn(int)", "int wayUp(int, int, int)", "int leader()", "int owes(int, int)",
        "int bestLane(int, int)", "int count(int)");
    private static final List<String> FORBIDDEN = List.of("\\bthrow\\b", "\\bthrows\\b", "\\btry\\b", "\\bcatch\\b",
        "\\bfinally\\b", "\\bsynchronized\\b", "\\bassert\\b", "->", "::", "\\bvar\\b", "\\bnative\\b", "\\bvolatile\\b",
        "\\btransient\\b", "Exact\\b", "\\bhashCode\\b", "\\bSystem\\.(?!arraycopy\\b)",
        "\\bMath\\.(?!(?:min|max|abs|floorDiv|floorMod|multiplyHigh|signum)\\b)", "\\bArrays\\.(?!(?:fill|copyOf|copyOfRange)\\b)",
        "\\bwhile \\(true\\)", "\\bfor \\(;;", "[^\\x00-\\x7f]");
    private static final Set<String> IMPORTS = Set.of("java.util.ArrayList", "java.util.Arrays", "java.util.Iterator", "java.util.List");

    private static final Set<Class<?>> CONSTANTS = Set.of(int.class, long.class, boolean.class, char.class, String.class,
        int[].class, long[].class, char[].class, byte[].class);

    private LanguageTest() {
    }

    public static void main(String[] args) throws IOException {
        String source = Files.readString(Path.of(SOURCE));
        theFace();
        theClassesInside();
        noForbiddenWord(withoutComments(source));
        farOffArguments();
        if (Program.isTheOneTold(source)) {
            headings();
            methodsAreShort(source);
            loopsCount(withoutComments(source));
            callsMakeNothing();
        }
        Checks.end();
    }

    private static void theFace() {
        Class<?> face = SnailTrails.class;
        Checks.holds("the class is public and final", face.getModifiers() == (Modifier.PUBLIC | Modifier.FINAL));
        Checks.holds("no supertypes", face.getSuperclass() == Object.class && face.getInterfaces().length == 0);
        Checks.due("public constructors", face.getConstructors().length, 1);
        Checks.due("constructors", face.getDeclaredConstructors().length, 1);
        Set<String> open = new TreeSet<>();
        Set<String> openNames = new HashSet<>();
        for (Method method : face.getDeclaredMethods()) {
            if (!Modifier.isPrivate(method.getModifiers())) {
                open.add(told(method));
                openNames.add(method.getName());
            }
        }
        Checks.holds("the methods are those of the document: " + open, open.equals(FACE));
        for (Method method : face.getDeclaredMethods()) {
            boolean isPrivate = Modifier.isPrivate(method.getModifiers());
            Checks.holds(method + " bears no public name", !isPrivate || !openNames.contains(method.getName()));
        }
        constants(face);
    }

    private static String told(Method method) {
        StringBuilder told = new StringBuilder(method.getReturnType() + " " + method.getName() + "(");
        for (Class<?> type : method.getParameterTypes()) {
            told.append(told.charAt(told.length() - 1) == '(' ? "" : ", ").append(type);
        }
        return told.append(")").toString();
    }

    private static void constants(Class<?> face) {
        int open = 0;
        for (Field field : face.getDeclaredFields()) {
            open += Modifier.isPrivate(field.getModifiers()) ? 0 : 1;
        }
        Checks.due("constants that are public", open, 5);
        Checks.due("UNKNOWN", SnailTrails.UNKNOWN, -1);
        Checks.due("BAD_VALUE", SnailTrails.BAD_VALUE, -2);
        Checks.due("FULL", SnailTrails.FULL, -3);
        Checks.due("NOT_POSSIBLE", SnailTrails.NOT_POSSIBLE, -4);
        Checks.due("NONE", SnailTrails.NONE, -5);
    }

    /** The headings that the document tells stand ahead of their calls, and of no others. */
    private static void headings() throws IOException {
        String source = Files.readString(Path.of(SOURCE));
        String[] headings = {"---- the pane, snails", "---- texts", "---- history", "---- what is told"};
        String[] calls = {"setSnail takeOff setFrost set pass", "type clearText perform stopped", "undo keep restore",
            "snail cell cost does reason endsIn wayUp leader owes bestLane count"};
        for (int part = 0; part < headings.length; part++) {
            int begin = source.indexOf("// " + headings[part]);
            int end = part + 1 < headings.length ? source.indexOf("// " + headings[part + 1]) : source.length();
            Checks.holds("there is a heading " + headings[part], begin >= 0 && begin < end);
            for (String call : calls[part].split(" ")) {
                int at = source.indexOf("    public int " + call + "(");
                Checks.holds(headings[part] + " is ahead of " + call, at > begin && at < end);
            }
        }
    }

    private static void theClassesInside() {
        Class<?>[] inside = SnailTrails.class.getDeclaredClasses();
        Checks.holds("some twelve classes at most", inside.length < 13);
        fieldsOf(SnailTrails.class);
        for (Class<?> each : inside) {
            int modifiers = each.getModifiers();
            Checks.holds(each + " is static and not open", Modifier.isStatic(modifiers)
                && !Modifier.isPublic(modifiers) && !Modifier.isProtected(modifiers));
            fieldsOf(each);
        }
    }

    private static void fieldsOf(Class<?> each) {
        int own = 0;
        for (Field field : each.getDeclaredFields()) {
            boolean isStatic = Modifier.isStatic(field.getModifiers());
            Checks.holds(field + " is final", !isStatic || Modifier.isFinal(field.getModifiers()));
            boolean isConstant = each.isEnum() || CONSTANTS.contains(field.getType());
            Checks.holds(field + " is a constant", !isStatic || isConstant);
            own += isStatic ? 0 : 1;
        }
        Checks.holds(each + " has some twenty fields at most", own <= 20);
    }

    private static String withoutComments(String source) {
        return source.replaceAll("(?s)/\\*.*?\\*/", "").replaceAll("//.*", "");
    }

    private static void noForbiddenWord(String code) {
        for (String word : FORBIDDEN) {
            Matcher matcher = Pattern.compile(word).matcher(code);
            Checks.holds("no " + word + " in the program", !matcher.find());
        }
        Matcher imports = Pattern.compile("import ([^;]*);").matcher(code);
        while (imports.find()) {
            Checks.holds("import of " + imports.group(1), IMPORTS.contains(imports.group(1)));
        }
    }

    private static void methodsAreShort(String source) {
        String[] lines = source.split("\n");
        int start = -1;
        for (int line = 0; line < lines.length; line++) {
            boolean begins = lines[line].matches(" {4}( {4})?[^ /*@].*\\) \\{");
            if (begins) {
                start = line;
                Checks.holds("seven parameters at most: " + lines[line], lines[line].split(",").length <= 7);
            }
            if (start >= 0 && lines[line].matches(" {4}( {4})?\\}")) {
                Checks.holds("sixty lines at most: " + lines[start], line - start < 60);
                start = -1;
            }
        }
    }

    /** Each loop goes over an array, or counts up or down to a bound by steps of one. */
    private static void loopsCount(String code) {
        Checks.holds("no loop but for", !Pattern.compile("\\b(while|do)\\b").matcher(code).find());
        Matcher loops = Pattern.compile("for \\((.*)\\) \\{").matcher(code);
        int seen = 0;
        while (loops.find()) {
            String loop = loops.group(1);
            boolean isOverAnArray = loop.matches("int \\w+ : \\w+");
            boolean isCounted = loop.matches("int (\\w+) = [^;]*; \\1 (<|<=) [^;]*; \\1\\+\\+")
                || loop.matches("int (\\w+) = [^;]*; \\1 (>|>=) [^;]*; \\1--");
            Checks.holds("the end of a loop can be seen: " + loop, isOverAnArray || isCounted);
            seen++;
        }
        Checks.due("loops", code.split("\\bfor \\(", -1).length - 1, seen);
    }

    /** All that a run needs is made with the object, so that many calls stay within the room. */
    private static void callsMakeNothing() {
        ThreadMXBean threads = (ThreadMXBean) ManagementFactory.getThreadMXBean();
        long thread = Thread.currentThread().getId();
        someCalls(new SnailTrails());
        SnailTrails x = new SnailTrails();
        long before = threads.getThreadAllocatedBytes(thread);
        int calls = someCalls(x);
        long made = threads.getThreadAllocatedBytes(thread) - before;
        Checks.holds(calls + " calls allocated " + made + " bytes", made < 2000);
        before = threads.getThreadAllocatedBytes(thread);
        SnailTrails another = new SnailTrails();
        made = threads.getThreadAllocatedBytes(thread) - before;
        Checks.holds("an object takes " + made + " bytes", another.count(0) == 0 && made < 30000);
    }

    private static int someCalls(SnailTrails x) {
        int calls = 0;
        for (int round = 0; round < 14; round++) {
            x.setSnail(round % 6, 50);
            x.pass(1 + round % 5);
            x.setFrost(round % 6, round % 20, round % 10);
            x.set(round % 4, 1 + round % 9);
            x.type("s0*9;.1;.2".charAt(round % 10));
            x.perform();
            x.keep();
            x.restore();
            x.undo();
            for (int what = 0; what < 6; what++) {
                x.endsIn(what);
                x.wayUp(what, 0, round % 2);
                x.cost(what, round % 3);
                x.count(what);
            }
            x.bestLane(round, 0);
            x.leader();
            calls += 35;
        }
        return calls;
    }

    /** Whatever the arguments, a call answers; what the machine throws would end this program. */
    private static void farOffArguments() {
        int[] far = {Integer.MIN_VALUE, Integer.MIN_VALUE + 1, -101, -6, -1, 0, 1, 5, 6, 8, 9, 14, 15, 19, 20, 60, 99, 100,
            Integer.MAX_VALUE - 1, Integer.MAX_VALUE};
        for (int one : far) {
            for (int two : far) {
                SnailTrails x = new SnailTrails();
                x.setSnail(3, 50);
                x.pass(2);
                x.setSnail(3, 50);
                int[] answers = {x.setSnail(one, two), x.setFrost(one, two, one), x.setFrost(1, one, two), x.set(one, two),
                    x.pass(one), x.takeOff(one), x.stopped(one), x.snail(one, two), x.cell(one, two, 0), x.cell(0, one, two),
                    x.cost(one, two), x.does(one), x.reason(one, two, 0), x.reason(0, one, two), x.endsIn(one),
                    x.wayUp(one, two, 0), x.wayUp(0, one, two), x.owes(one, two), x.bestLane(one, two), x.count(one)};
                Checks.holds("no answer is below NONE: " + Arrays.toString(answers),
                    Arrays.stream(answers).min().getAsInt() >= SnailTrails.NONE);
            }
        }
    }
}
