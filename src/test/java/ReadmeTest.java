import java.io.IOException;
import java.lang.reflect.InvocationTargetException;
import java.lang.reflect.Method;
import java.nio.file.Files;
import java.nio.file.Path;
import java.util.regex.Matcher;
import java.util.regex.Pattern;

/** README.md is right: its calls, one behind the other on one object, answer what stands behind them. */
public final class ReadmeTest {
    private static final Pattern CALL =
            Pattern.compile("tuner\\.(\\w+)\\(([^)]*)\\);\\s*// (throws )?(-?\\d+|true|false|\\w+)(:.*)?");
    private static final int FOLDERS_ABOVE = 4;
    private static final int FEWEST_CALLS = 15;

    public static void main(String[] args) throws IOException {
        Path folder = Path.of(args[0]).toAbsolutePath();
        for (int i = 0; i < FOLDERS_ABOVE; i++) {
            folder = folder.getParent();
        }
        String[] lines = Files.readString(folder.resolve("README.md")).split("\n");
        SelfTuner tuner = new SelfTuner();
        int calls = 0;
        for (String line : lines) {
            Matcher m = CALL.matcher(line);
            if (m.matches()) {
                calls++;
                String got = answer(tuner, m.group(1), m.group(2));
                Checks.due(line + ": " + got, got.equals(m.group(4)), true);
            } else {
                Checks.due("without an answer: " + line, line.startsWith("tuner."), false);
            }
        }
        Checks.due(calls + " calls", calls >= FEWEST_CALLS, true);
        Checks.end("ReadmeTest");
    }

    private static String answer(SelfTuner tuner, String name, String arguments) {
        for (Method method : SelfTuner.class.getDeclaredMethods()) {
            if (method.getName().equals(name)) {
                return answer(tuner, method, arguments.isEmpty() ? new String[0] : arguments.split(", "));
            }
        }
        return "no method " + name;
    }

    private static String answer(SelfTuner tuner, Method method, String[] arguments) {
        Object[] values = new Object[arguments.length];
        for (int i = 0; i < values.length; i++) {
            boolean sign = arguments[i].startsWith("'");
            values[i] = sign ? arguments[i].charAt(1) : Integer.parseInt(arguments[i]);
        }
        try {
            return String.valueOf(method.invoke(tuner, values));
        } catch (InvocationTargetException e) {
            return e.getCause().getClass().getSimpleName();
        } catch (IllegalAccessException e) {
            return "no access to " + method;
        }
    }
}
