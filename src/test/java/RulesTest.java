import java.io.IOException;
import java.lang.reflect.Constructor;
import java.lang.reflect.Executable;
import java.lang.reflect.Field;
import java.lang.reflect.Method;
import java.lang.reflect.Modifier;
import java.util.ArrayList;
import java.util.HashMap;
import java.util.HashSet;
import java.util.List;
import java.util.Map;
import java.util.Set;

/** The rules of LANGUAGE.md as far as they can be seen in the compiled classes; LanguageTest sees those of the text. */
public final class RulesTest {
    private static final int DEEPEST = 8;
    private static final int THROW = 191;
    private static final int DYNAMIC = 186;
    private static final int ENTER_MONITOR = 194;
    private static final int LEAVE_MONITOR = 195;
    private static final Set<Integer> NEW = Set.of(187, 188, 189, 197);
    private static final Map<String, Set<String>> LIBRARY = Map.of(
        "java/lang/Object", Set.of("<init>"),
        "java/lang/System", Set.of("arraycopy"),
        "java/util/Arrays", Set.of("copyOf", "copyOfRange", "fill"),
        "java/lang/String", Set.of("<init>", "length", "charAt", "isEmpty", "equals", "indexOf", "substring", "toCharArray"),
        "java/lang/StringBuilder", Set.of("<init>", "append", "charAt", "setCharAt", "setLength", "deleteCharAt", "reverse", "length", "toString"),
        "java/util/ArrayList", Set.of("<init>", "add", "get", "set", "remove", "size", "isEmpty", "clear", "iterator"),
        "java/util/List", Set.of("of", "add", "get", "set", "remove", "size", "isEmpty", "clear", "iterator"),
        "java/util/Iterator", Set.of("hasNext", "next"));
    private static final Set<String> NUMBERS = Set.of("java/lang/Math", "java/lang/Integer", "java/lang/Long");
    private static final Set<Class<?>> LIBRARY_TYPES = Set.of(String.class, StringBuilder.class, Integer.class, ArrayList.class, List.class);

    private final List<Class<?>> classes = new ArrayList<>(List.of(SnailTrails.class));
    private final Map<String, ClassFile.Method> methods = new HashMap<>();

    private RulesTest() throws IOException {
        classes.addAll(List.of(SnailTrails.class.getDeclaredClasses()));
        for (Class<?> type : classes) {
            for (ClassFile.Method method : ClassFile.methodsOf(type)) {
                methods.put(method.name(), method);
            }
        }
    }

    public static void main(String[] args) throws IOException {
        noPrivateMethodBearsAPublicName();
        classesInside();
        types();
        library();
        noThrow();
        callsEnd();
        fewParameters();
        newInConstructorsAlone();
        Checks.end();
    }

    /** Rule 1. */
    private static void noPrivateMethodBearsAPublicName() throws IOException {
        Set<String> open = new HashSet<>();
        for (Method method : SnailTrails.class.getMethods()) {
            open.add(method.getName());
        }
        for (Class<?> type : new RulesTest().classes) {
            for (Method method : type.getDeclaredMethods()) {
                boolean isPrivate = Modifier.isPrivate(method.getModifiers());
                Checks.holds("rule 1: " + method + " bears no public name", !isPrivate || !open.contains(method.getName()));
            }
        }
    }

    /** Rule 2: no class stands in a method, without a name, or deeper than in SnailTrails. */
    private static void classesInside() throws IOException {
        for (Class<?> type : new RulesTest().classes) {
            Checks.holds("rule 2: " + type + " has a name", !type.isAnonymousClass() && !type.isLocalClass());
            Checks.holds("rule 2: " + type + " is static", type == SnailTrails.class || Modifier.isStatic(type.getModifiers()));
            Checks.holds("rule 2: " + type + " holds no further class", type == SnailTrails.class || type.getDeclaredClasses().length == 0);
        }
        String name = SnailTrails.class.getSimpleName();
        for (int number = 1; number < 30; number++) {
            Checks.holds("rule 2: no " + name + "$" + number, RulesTest.class.getResource(name + "$" + number + ".class") == null);
        }
    }

    /** Rule 3, and 5 for what is static. */
    private static void types() throws IOException {
        RulesTest rules = new RulesTest();
        for (Class<?> type : rules.classes) {
            for (Field field : type.getDeclaredFields()) {
                Checks.holds("rule 3: the type of " + field, rules.isAllowed(field.getType()));
                boolean isStatic = Modifier.isStatic(field.getModifiers());
                Checks.holds("rule 5: " + field + " is final", !isStatic || Modifier.isFinal(field.getModifiers()));
            }
            for (Executable each : executables(type)) {
                for (Class<?> parameter : each.getParameterTypes()) {
                    Checks.holds("rule 3: a parameter of " + each, rules.isAllowed(parameter));
                }
            }
            for (Method method : type.getDeclaredMethods()) {
                Checks.holds("rule 3: the answer of " + method, rules.isAllowed(method.getReturnType()));
                int strange = method.getModifiers() & (Modifier.SYNCHRONIZED | Modifier.NATIVE | Modifier.STRICT);
                Checks.due("rule 6: modifiers of " + method, strange, 0);
            }
        }
    }

    private static List<Executable> executables(Class<?> type) {
        List<Executable> all = new ArrayList<>(List.of(type.getDeclaredMethods()));
        for (Constructor<?> constructor : type.getDeclaredConstructors()) {
            all.add(constructor);
        }
        return all;
    }

    private boolean isAllowed(Class<?> type) {
        if (type.isArray()) {
            Class<?> element = type.getComponentType();
            boolean isRowOfNumbers = element.isArray() && element.getComponentType().isPrimitive();
            return element.isPrimitive() || isRowOfNumbers || classes.contains(element);
        }
        return type.isPrimitive() || classes.contains(type) || LIBRARY_TYPES.contains(type);
    }

    /** Rule 4. */
    private static void library() throws IOException {
        for (ClassFile.Method method : new RulesTest().methods.values()) {
            for (String call : method.calls()) {
                Checks.holds("rule 4: " + method.name() + " calls " + call, isAllowed(call));
            }
        }
    }

    private static boolean isAllowed(String call) {
        String type = call.substring(0, call.indexOf('.'));
        String name = call.substring(call.indexOf('.') + 1, call.indexOf('('));
        if (NUMBERS.contains(type)) {
            return !name.endsWith("Exact") && !name.equals("random") && !name.startsWith("parse");
        }
        boolean isOwn = type.equals("SnailTrails") || type.startsWith("SnailTrails$");
        boolean isClone = type.startsWith("[") && name.equals("clone");
        return isOwn || isClone || LIBRARY.getOrDefault(type, Set.of()).contains(name);
    }

    /** Rule 6, and no lambda, no method reference and no joining by + (rules 2 and 10). */
    private static void noThrow() throws IOException {
        for (ClassFile.Method method : new RulesTest().methods.values()) {
            Checks.due("rule 6: what is caught in " + method.name(), method.caught(), 0);
            for (int opcode : new int[] {THROW, DYNAMIC, ENTER_MONITOR, LEAVE_MONITOR}) {
                Checks.holds("rule 6: no instruction " + opcode + " in " + method.name(), !method.opcodes().contains(opcode));
            }
        }
    }

    /** Rules 8 and 11: nothing calls itself again, and no chain of calls is longer than eight. */
    private static void callsEnd() throws IOException {
        RulesTest rules = new RulesTest();
        for (String method : rules.methods.keySet()) {
            int depth = rules.depth(method, new ArrayList<>());
            Checks.holds("rule 11: " + method + " goes " + depth + " deep", depth <= DEEPEST);
        }
    }

    private int depth(String method, List<String> open) {
        if (!methods.containsKey(method)) {
            return 0;
        }
        if (open.contains(method)) {
            Checks.holds("rule 8: " + method + " is not called by itself", false);
            return DEEPEST;
        }
        open.add(method);
        int deepest = 0;
        for (String call : methods.get(method).calls()) {
            deepest = Math.max(deepest, depth(call, open));
        }
        open.remove(method);
        return deepest + 1;
    }

    /** Rule 11. */
    private static void fewParameters() throws IOException {
        RulesTest rules = new RulesTest();
        Checks.holds("rule 11: some twelve classes at most", rules.classes.size() <= 13);
        for (Class<?> type : rules.classes) {
            for (Executable each : executables(type)) {
                Checks.holds("rule 11: seven parameters at most: " + each, each.getParameterCount() <= 7);
            }
        }
    }

    /** Rule 12 lets any method make an object; here none does, so that no run of calls fills the room. */
    private static void newInConstructorsAlone() throws IOException {
        if (!Program.isTheOneTold(Program.source())) {
            return;
        }
        for (ClassFile.Method method : new RulesTest().methods.values()) {
            boolean isConstructor = method.name().contains(".<init>") || method.name().contains(".<clinit>");
            boolean makes = method.opcodes().stream().anyMatch(NEW::contains);
            Checks.holds("rule 12: " + method.name() + " makes nothing", isConstructor || !makes);
        }
    }
}
