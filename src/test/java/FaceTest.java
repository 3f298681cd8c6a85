import java.lang.reflect.Constructor;
import java.lang.reflect.Field;
import java.lang.reflect.Method;
import java.lang.reflect.Modifier;
import java.util.Set;
import java.util.TreeSet;

/** The public face, and nothing beside it: LANGUAGE.md, rule 1. */
public final class FaceTest {
    private static final String ARGUMENT = " throws IllegalArgumentException";
    private static final String INDEX = " throws IndexOutOfBoundsException";
    private static final String[] FACE = {
        "int set(int, int)" + ARGUMENT, "int value(int)" + ARGUMENT,
        "int setBox(int, int, int)" + INDEX + ", IllegalArgumentException",
        "int box(int, boolean)" + INDEX, "int setPlant(int, int, int, int)" + ARGUMENT,
        "int seed(int, int)" + ARGUMENT, "long sample(int, int, int)" + ARGUMENT, "int restart()",
        "int parameter(int)" + INDEX, "long covariance(int, int)" + INDEX, "int count(int)" + ARGUMENT,
        "long predict(int, int)" + ARGUMENT, "double uncertainty(int, int)" + ARGUMENT, "int inWindow()",
        "long determinant()", "boolean exciting()", "int control(int, int)" + ARGUMENT,
        "int run(int, int)" + ARGUMENT, "int drive(int, int)" + ARGUMENT, "int output()",
        "int bias(int)" + INDEX, "long costOf(int, int)" + ARGUMENT, "int settling(int, int)" + ARGUMENT,
        "int bestDither(int, int, int)" + ARGUMENT, "int append(int)" + ARGUMENT + ", IllegalStateException",
        "int clearText()", "int replay()", "int undo() throws IllegalStateException", "long digest()"};

    public static void main(String[] args) {
        Class<?> c = SelfTuner.class;
        Checks.due("the class is public and final", c.getModifiers(), Modifier.PUBLIC | Modifier.FINAL);
        methods(c);
        fields(c);
        Constructor<?>[] constructors = c.getDeclaredConstructors();
        Checks.due("one constructor", constructors.length, 1);
        Checks.due("it is public", constructors[0].getModifiers(), Modifier.PUBLIC);
        Checks.due("without parameters", constructors[0].getParameterCount(), 0);
        Checks.end("FaceTest");
    }

    private static void methods(Class<?> c) {
        Set<String> want = new TreeSet<>(Set.of(FACE));
        Set<String> names = new TreeSet<>();
        Set<String> privateNames = new TreeSet<>();
        for (Method m : c.getDeclaredMethods()) {
            if (Modifier.isPrivate(m.getModifiers())) {
                privateNames.add(m.getName());
                continue;
            }
            names.add(m.getName());
            Checks.due(m + " is public and nothing else", m.getModifiers(), Modifier.PUBLIC);
            Checks.due("the face has " + signature(m), want.remove(signature(m)), true);
        }
        Checks.due("methods that are missing: " + want, want.size(), 0);
        for (Class<?> inside : c.getDeclaredClasses()) {
            for (Method m : inside.getDeclaredMethods()) {
                privateNames.add(m.getName());
            }
        }
        privateNames.retainAll(names);
        Checks.due("private methods with public names: " + privateNames, privateNames.size(), 0);
    }

    private static String signature(Method m) {
        StringBuilder s = new StringBuilder(m.getReturnType() + " " + m.getName() + "(");
        for (Class<?> p : m.getParameterTypes()) {
            s.append(s.charAt(s.length() - 1) == '(' ? "" : ", ").append(p);
        }
        s.append(")");
        String between = " throws ";
        for (Class<?> e : m.getExceptionTypes()) {
            s.append(between).append(e.getSimpleName());
            between = ", ";
        }
        return s.toString();
    }

    private static void fields(Class<?> c) {
        for (Field f : c.getDeclaredFields()) {
            if (f.getName().equals("NONE")) {
                Checks.due("NONE", f.getModifiers(), Modifier.PUBLIC | Modifier.STATIC | Modifier.FINAL);
                continue;
            }
            Checks.due(f + " is private", Modifier.isPrivate(f.getModifiers()), true);
            Checks.due(f + " is no changing static", Modifier.isStatic(f.getModifiers())
                    && !Modifier.isFinal(f.getModifiers()), false);
        }
    }
}
