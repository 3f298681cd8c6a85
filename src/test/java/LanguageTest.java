import java.io.IOException;
import java.lang.reflect.Array;
import java.lang.reflect.Constructor;
import java.lang.reflect.Field;
import java.lang.reflect.Method;
import java.lang.reflect.Modifier;
import java.nio.file.Files;
import java.nio.file.Path;
import java.util.ArrayList;
import java.util.Collections;
import java.util.HashMap;
import java.util.HashSet;
import java.util.IdentityHashMap;
import java.util.List;
import java.util.Map;
import java.util.Set;
import java.util.TreeSet;
import java.util.regex.Matcher;
import java.util.regex.Pattern;

/** The rules of LANGUAGE.md, as far as the text, the class and a new object can tell. */
public final class LanguageTest {
    private static final String[] FORBIDDEN = {
        "import", "package", "->", "::", "finally", "synchronized", "assert", "catch", "static {", "while (true)",
        "for (;;)", "hashCode", "toString", "getClass", "native", "volatile", "strictfp", "@"};
    private static final Set<String> LIBRARY = Set.of(
        "Math.abs", "Math.max", "Math.min", "Math.floorDiv", "Math.floorMod", "Integer.compare", "Integer.bitCount",
        "Long.compare", "Long.bitCount", "System.arraycopy", "Arrays.copyOf", "Arrays.copyOfRange", "Arrays.fill",
        "List.of");
    private static final Set<String> EXCEPTIONS = Set.of(
        "IllegalStateException", "IllegalArgumentException", "IndexOutOfBoundsException", "ArithmeticException",
        "UnsupportedOperationException", "NoSuchElementException", "RuntimeException");
    private static final Set<String> NUMBERS = Set.of(
        "int", "long", "short", "byte", "char", "boolean", "double", "float");
    private static final Set<String> WORDS = Set.of(
        "if", "for", "while", "switch", "return", "else", "do", "new", "catch", "throw", "super", "this");
    private static final Pattern METHOD = Pattern.compile(
        "(?:public |private |static |final )+(?:[\\w\\[\\]<>]+ )?(\\w+)\\([^)]*\\)(?:\\s*throws [\\w, ]+)? \\{");
    private static final int MOST_CLASSES = 12;
    private static final int MOST_FIELDS = 20;
    private static final int MOST_LINES = 60;
    private static final int MOST_PARAMETERS = 7;
    private static final int MOST_DEPTH = 8;
    private static final int MOST_OBJECTS = 150;
    private static final int MOST_ELEMENTS = 1500;

    private static final Map<String, String> BODIES = new HashMap<>();
    private static final Map<String, String> TYPES = new HashMap<>();
    private static final List<Class<?>> CLASSES = new ArrayList<>();

    public static void main(String[] args) throws IOException {
        CLASSES.add(SelfTuner.class);
        CLASSES.addAll(List.of(SelfTuner.class.getDeclaredClasses()));
        String source = Files.readString(Path.of(args[0]));
        String code = withoutComments(source);
        Checks.run(LanguageTest::rule1);
        Checks.run(LanguageTest::rules2And11);
        Checks.run(LanguageTest::rules3And5);
        Checks.run(() -> rule4(code));
        Checks.run(() -> rule6(code));
        Checks.run(() -> words(source, code));
        Checks.run(() -> methods(code));
        Checks.run(LanguageTest::rule12);
        Checks.end("LanguageTest");
    }

    /** Texts stay, but for what is in them; the lines stay. */
    private static String withoutComments(String source) {
        StringBuilder t = new StringBuilder();
        Matcher m = Pattern.compile("(?s)/\\*.*?\\*/|//[^\n]*|\"[^\"\n]*\"").matcher(source);
        while (m.find()) {
            String lines = m.group().replaceAll("[^\n]", "");
            m.appendReplacement(t, m.group().startsWith("\"") ? "\"\"" : lines);
        }
        return m.appendTail(t).toString();
    }

    private static void rule1() {
        Checks.sentence("LANGUAGE.md, 1: classes inside are private or package-visible and static");
        for (Class<?> inside : SelfTuner.class.getDeclaredClasses()) {
            int modifiers = inside.getModifiers();
            Checks.due(inside + " is hidden", Modifier.isPublic(modifiers) || Modifier.isProtected(modifiers), false);
            Checks.due(inside + " is static", Modifier.isStatic(modifiers), true);
        }
    }

    private static void rules2And11() {
        Checks.sentence("LANGUAGE.md, 2 and 11: some twelve classes of some twenty fields, seven parameters");
        Checks.due(CLASSES.size() + " classes", CLASSES.size() <= MOST_CLASSES, true);
        for (Class<?> c : CLASSES) {
            int fields = 0;
            for (Field f : c.getDeclaredFields()) {
                fields += Modifier.isStatic(f.getModifiers()) ? 0 : 1;
            }
            Checks.due(c + " has " + fields + " fields", fields <= MOST_FIELDS, true);
            for (Method m : c.getDeclaredMethods()) {
                Checks.due("the parameters of " + m, m.getParameterCount() <= MOST_PARAMETERS, true);
            }
            for (Constructor<?> m : c.getDeclaredConstructors()) {
                Checks.due("the parameters of " + m, m.getParameterCount() <= MOST_PARAMETERS, true);
            }
        }
    }

    private static void rules3And5() {
        Checks.sentence("LANGUAGE.md, 3 and 5: the types of fields, and static fields");
        for (Class<?> c : CLASSES) {
            for (Field f : c.getDeclaredFields()) {
                Class<?> type = f.getType();
                Class<?> element = type.isArray() ? type.getComponentType() : type;
                boolean numbers = NUMBERS.contains(element.getName());
                boolean own = CLASSES.contains(element);
                if (Modifier.isStatic(f.getModifiers())) {
                    Checks.due(f + " is final", Modifier.isFinal(f.getModifiers()), true);
                    Checks.due(f + " is a constant", numbers || type == String.class, true);
                    continue;
                }
                Checks.due("the type of " + f, numbers || own || element == String.class
                        || element == StringBuilder.class, true);
            }
        }
    }

    private static void rule4(String code) {
        Checks.sentence("LANGUAGE.md, 4: the library: only what stands there");
        Matcher m = Pattern.compile("\\b([A-Z]\\w*)\\s*\\.\\s*(\\w+)").matcher(code);
        Set<String> constants = new HashSet<>();
        for (Class<?> c : CLASSES) {
            for (Field f : c.getDeclaredFields()) {
                if (Modifier.isStatic(f.getModifiers())) {
                    constants.add(f.getName());
                }
            }
        }
        while (m.find()) {
            String name = m.group(1) + "." + m.group(2);
            boolean own = constants.contains(m.group(1)) && m.group(2).equals("length");
            Checks.due(name + " stands in rule 4", own || LIBRARY.contains(name), true);
        }
    }

    private static void rule6(String code) {
        Checks.sentence("LANGUAGE.md, 6: throw new E() or throw new E(\"a written text\")");
        Matcher m = Pattern.compile("throw ([^;]*);").matcher(code);
        while (m.find()) {
            Matcher made = Pattern.compile("new (\\w+)\\((\"\")?\\)").matcher(m.group(1));
            Checks.due(m.group(), made.matches() && EXCEPTIONS.contains(made.group(1)), true);
        }
    }

    private static void words(String source, String code) {
        Checks.sentence("LANGUAGE.md: what the program must do without");
        for (String word : FORBIDDEN) {
            Checks.due("the program has no " + word, code.contains(word), false);
        }
        Checks.due("the program is in ASCII", source.chars().allMatch(ch -> ch < 128), true);
    }

    private static void methods(String code) {
        Checks.sentence("LANGUAGE.md, 6, 8 and 11: short methods, no throw in a constructor, calls at most eight deep");
        findTypes(code);
        String inside = "SelfTuner";
        Matcher m = Pattern.compile("class (\\w+) \\{|" + METHOD.pattern()).matcher(code);
        while (m.find()) {
            if (m.group(1) != null) {
                inside = m.group(1);
                continue;
            }
            String body = code.substring(m.start(), endOfBraces(code, m.end()));
            String name = m.group(2);
            long lines = body.chars().filter(c -> c == '\n').count() + 1;
            Checks.due(name + " has " + lines + " lines", lines <= MOST_LINES, true);
            if (name.equals(inside)) {
                Checks.due("no throw in the constructor " + name, body.contains("throw "), false);
            }
            BODIES.put(inside + "." + name, code.substring(m.end(), endOfBraces(code, m.end())));
        }
        int declared = 0;
        for (Class<?> c : CLASSES) {
            for (Method each : c.getDeclaredMethods()) {
                declared += each.isSynthetic() ? 0 : 1;
                Checks.due("the text of " + each + " is found",
                        BODIES.containsKey(c.getSimpleName() + "." + each.getName()), true);
            }
        }
        Checks.due("methods that are declared, more than the faces'", declared > 29, true);
        for (String method : new TreeSet<>(BODIES.keySet())) {
            int depth = depth(method, 1);
            Checks.due(method + " goes " + depth + " deep", depth <= MOST_DEPTH, true);
        }
    }

    /** Fields and local variables of own classes; each name stands for one class only. */
    private static void findTypes(String code) {
        for (Class<?> c : CLASSES) {
            Matcher m = Pattern.compile("\\b" + c.getSimpleName() + "(?:\\[\\])? (\\w+)\\b(?!\\()").matcher(code);
            while (m.find()) {
                if (m.group(1).equals("other")) {
                    continue;
                }
                String before = TYPES.put(m.group(1), c.getSimpleName());
                Checks.due("the class of " + m.group(1), before == null || before.equals(c.getSimpleName()), true);
            }
        }
    }

    private static int endOfBraces(String code, int behindFirst) {
        int open = 1;
        int i = behindFirst;
        while (open > 0) {
            open += code.charAt(i) == '{' ? 1 : code.charAt(i) == '}' ? -1 : 0;
            i++;
        }
        return i;
    }

    /** A call of the library counts as a level, too; a recursion goes too deep. */
    private static int depth(String method, int above) {
        if (above > MOST_DEPTH + 1) {
            return above;
        }
        int deepest = above;
        Matcher m = Pattern.compile("(?:(\\w+)(?:\\[[^\\]]*\\])?\\.)?(\\w+)\\(").matcher(BODIES.get(method));
        while (m.find()) {
            if (!WORDS.contains(m.group(2))) {
                deepest = Math.max(deepest, depthOfCall(method, m.group(1), m.group(2), above + 1));
            }
        }
        return deepest;
    }

    private static int depthOfCall(String from, String on, String name, int level) {
        String type = on == null ? from.substring(0, from.indexOf('.')) : TYPES.get(on);
        for (String called : new String[] {type + "." + name, "SelfTuner." + name, name + "." + name}) {
            if (BODIES.containsKey(called)) {
                return depth(called, level);
            }
        }
        boolean known = on != null && LIBRARY.contains(on + "." + name) || EXCEPTIONS.contains(name)
                || CLASSES.stream().anyMatch(c -> c.getSimpleName().equals(name));
        Checks.due("the call of " + name + " in " + from + " is of a known method", known, true);
        return level;
    }

    /** The room of a run: an object makes all that it needs with itself, and its calls make nothing but exceptions. */
    private static void rule12() {
        Checks.sentence("LANGUAGE.md, 12: what a run makes is counted; keep it small");
        for (Map.Entry<String, String> method : BODIES.entrySet()) {
            Matcher m = Pattern.compile("\\bnew (\\w+)|\\bclone\\(|\\bcopyOf|\\{[^{};]*\\};").matcher(method.getValue());
            String[] name = method.getKey().split("\\.");
            while (m.find() && !name[0].equals(name[1])) {
                boolean exception = m.group(1) != null && EXCEPTIONS.contains(m.group(1));
                Checks.due(method.getKey() + ": " + m.group(), exception, true);
            }
        }
        Set<Object> objects = Collections.newSetFromMap(new IdentityHashMap<>());
        int elements = count(new SelfTuner(), objects);
        Checks.due(objects.size() + " objects", objects.size() <= MOST_OBJECTS, true);
        Checks.due(elements + " fields and elements", elements <= MOST_ELEMENTS, true);
    }

    /** The fields and elements of an object and of all that it holds. */
    private static int count(Object object, Set<Object> objects) {
        if (object == null || !objects.add(object)) {
            return 0;
        }
        if (object.getClass().isArray()) {
            int sum = Array.getLength(object);
            for (int i = 0; i < Array.getLength(object); i++) {
                sum += object instanceof Object[] ? count(Array.get(object, i), objects) : 0;
            }
            return sum;
        }
        int sum = 0;
        for (Field f : object.getClass().getDeclaredFields()) {
            if (!Modifier.isStatic(f.getModifiers())) {
                sum += 1 + (f.getType().isPrimitive() ? 0 : count(held(f, object), objects));
            }
        }
        return sum;
    }

    private static Object held(Field f, Object object) {
        try {
            f.setAccessible(true);
            return f.get(object);
        } catch (IllegalAccessException e) {
            throw new IllegalStateException(e);
        }
    }
}
