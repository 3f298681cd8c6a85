import java.util.function.Supplier;
import java.util.function.ToLongFunction;

/**
 * Objects with the same past, of which one gets one call more: whether that call left a trace is seen in
 * everything that later calls can show, the saved states, the text and the older samples included.
 */
final class Twins {
    private static final int MANY_UNDOS = 6;

    private Twins() {
    }

    /** An object in which nothing is as initially: four saved states, samples older than the window, a text. */
    static SelfTuner busy() {
        SelfTuner x = new SelfTuner();
        x.setPlant(900, -400, 77, 30);
        x.seed(4711, 321);
        int[] settings = {60000, 3, 5, 5, 700, 9, 500};
        for (int i = 0; i < settings.length; i++) {
            x.set(i, settings[i]);
        }
        x.run(120, 40);
        x.setBox(0, -70000, 70000);
        x.setBox(1, -80000, 60000);
        x.setBox(2, -90000, 50000);
        x.drive(-33, 3);
        Checks.write(x, "12,34,56;-7,-8,-999;");
        return x;
    }

    /** The same with a text of 120 bytes, which is right. */
    static SelfTuner full() {
        SelfTuner x = busy();
        for (int i = 0; i < 10; i++) {
            Checks.write(x, "1,2,-1000;");
        }
        return x;
    }

    /** All answers that tell the present state; the costs show the noise and the number s. */
    static String now(SelfTuner x) {
        StringBuilder t = new StringBuilder();
        for (int i = 0; i < 7; i++) {
            t.append(x.value(i)).append(' ');
        }
        for (int i = 0; i < 3; i++) {
            t.append(x.box(i, false)).append(' ').append(x.box(i, true)).append(' ');
            t.append(x.parameter(i)).append(' ').append(x.bias(i)).append(' ');
        }
        for (int i = 0; i < 9; i++) {
            t.append(x.covariance(i / 3, i % 3)).append(' ');
        }
        for (int i = 0; i < 5; i++) {
            t.append(x.count(i)).append(' ');
        }
        t.append(x.inWindow()).append(' ').append(x.determinant()).append(' ').append(x.exciting()).append(' ');
        t.append(x.output()).append(' ').append(x.control(50, 5)).append(' ').append(x.predict(7, 8)).append(' ');
        t.append(x.uncertainty(7, 8)).append(' ').append(x.costOf(33, 20)).append(' ').append(x.costOf(-33, 3));
        return t.append(' ').append(x.digest()).append('\n').toString();
    }

    /** The states that undo brings back, one behind the other. */
    private static String past(SelfTuner x) {
        StringBuilder t = new StringBuilder();
        for (int i = 0; i < MANY_UNDOS; i++) {
            try {
                t.append("undo ").append(x.undo()).append(": ").append(now(x));
            } catch (IllegalStateException e) {
                t.append("no undo: ").append(now(x));
            }
        }
        return t.toString();
    }

    /** What windows of each length hold, and behind that what the text does. */
    private static String windowsAndText(SelfTuner x) {
        StringBuilder t = new StringBuilder();
        for (int i = 2; i <= 20; i++) {
            x.set(3, i);
            t.append(x.inWindow()).append(' ').append(x.determinant()).append(' ');
        }
        t.append("replay ").append(x.replay()).append(": ").append(now(x));
        return t.append("clearText ").append(x.clearText()).append('\n').toString();
    }

    static String trace(Supplier<SelfTuner> maker) {
        return now(maker.get()) + past(maker.get()) + windowsAndText(maker.get());
    }

    static void dueSame(String what, Supplier<SelfTuner> maker, Supplier<SelfTuner> other) {
        String got = trace(maker);
        String want = trace(other);
        Checks.due(what + ": the objects are the same, as far as calls tell", got.equals(want), true);
    }

    /** The call answers, and nothing is changed by it. */
    static void dueNoTrace(String what, Supplier<SelfTuner> maker, ToLongFunction<SelfTuner> call) {
        dueSame("behind " + what, () -> {
            SelfTuner x = maker.get();
            call.applyAsLong(x);
            return x;
        }, maker);
    }

    /** The call throws exactly that class, and nothing is changed by it. */
    static void dueRefused(String what, Supplier<SelfTuner> maker, Class<?> want, ToLongFunction<SelfTuner> call) {
        refusal(what, maker.get(), want, call);
        dueSame("behind the refused " + what, () -> {
            SelfTuner x = maker.get();
            refusal(what, x, want, call);
            return x;
        }, maker);
    }

    private static void refusal(String what, SelfTuner x, Class<?> want, ToLongFunction<SelfTuner> call) {
        try {
            long got = call.applyAsLong(x);
            Checks.wrong(what + " answered " + got + ", due is " + want.getSimpleName());
        } catch (RuntimeException e) {
            Checks.due(what + " threw " + e + ", due is " + want.getSimpleName(), e.getClass() == want, true);
        }
    }

    /** The call does not throw; its answer is another test's matter. */
    static void dueAllowed(String what, Supplier<SelfTuner> maker, ToLongFunction<SelfTuner> call) {
        try {
            call.applyAsLong(maker.get());
            Checks.due(what, true, true);
        } catch (RuntimeException e) {
            Checks.wrong(what + " threw " + e + ", but it is allowed");
        }
    }
}
