import java.util.function.ToLongFunction;

/**
 * The ranges of all arguments: the last value that is allowed and the first one that is not, at both ends,
 * and that a call that throws changes nothing. A method for each promise that has arguments or throws.
 */
public final class RefusedCallsTest {
    private static final int END = 20 * 65536;
    private static final Class<?> ARGUMENT = IllegalArgumentException.class;
    private static final Class<?> INDEX = IndexOutOfBoundsException.class;
    private static final Class<?> STATE = IllegalStateException.class;

    /** A call of which one argument is left open. */
    private interface Open {
        long call(SelfTuner x, int value);
    }

    public static void main(String[] args) {
        Checks.run(RefusedCallsTest::promise2Set);
        Checks.run(RefusedCallsTest::promise3Value);
        Checks.run(RefusedCallsTest::promise4SetBox);
        Checks.run(RefusedCallsTest::promise4LowAboveHigh);
        Checks.run(RefusedCallsTest::promise4WhichException);
        Checks.run(RefusedCallsTest::promise5Box);
        Checks.run(RefusedCallsTest::promise6SetPlant);
        Checks.run(RefusedCallsTest::promise7Seed);
        Checks.run(RefusedCallsTest::promise8Sample);
        Checks.run(RefusedCallsTest::promise10Parameter);
        Checks.run(RefusedCallsTest::promise11Covariance);
        Checks.run(RefusedCallsTest::promise12Count);
        Checks.run(RefusedCallsTest::promise13Predict);
        Checks.run(RefusedCallsTest::promise14Uncertainty);
        Checks.run(RefusedCallsTest::promise18Control);
        Checks.run(RefusedCallsTest::promise19Run);
        Checks.run(RefusedCallsTest::promise20Drive);
        Checks.run(RefusedCallsTest::promise22Bias);
        Checks.run(RefusedCallsTest::promise23CostOf);
        Checks.run(RefusedCallsTest::promise24Settling);
        Checks.run(RefusedCallsTest::promise25BestDither);
        Checks.run(RefusedCallsTest::promise26Append);
        Checks.run(RefusedCallsTest::promise26WhichException);
        Checks.run(RefusedCallsTest::promise29Undo);
        Checks.end("RefusedCallsTest");
    }

    private static void ends(String name, int least, int most, Class<?> thrown, Open open) {
        allowed(name, least, open);
        allowed(name, most, open);
        refused(name, least - 1, thrown, open);
        refused(name, most + 1, thrown, open);
        refused(name, Integer.MIN_VALUE, thrown, open);
        refused(name, Integer.MAX_VALUE, thrown, open);
    }

    private static void allowed(String name, int value, Open open) {
        ToLongFunction<SelfTuner> call = x -> open.call(x, value);
        Checks.part(() -> Twins.dueAllowed(name + " = " + value + ", new object", SelfTuner::new, call));
        Checks.part(() -> Twins.dueAllowed(name + " = " + value + ", busy object", Twins::busy, call));
    }

    private static void refused(String name, int value, Class<?> thrown, Open open) {
        ToLongFunction<SelfTuner> call = x -> open.call(x, value);
        Checks.part(() -> Twins.dueRefused(name + " = " + value + ", new object", SelfTuner::new, thrown, call));
        Checks.part(() -> Twins.dueRefused(name + " = " + value + ", busy object", Twins::busy, thrown, call));
    }

    private static void promise2Set() {
        String[] names = {"the forgetting factor, 50000 to 65536", "the dead zone, 0 to 500",
            "the excitation limit, 0 to 100", "the window, 2 to 20", "the input limit, 1 to 2000",
            "the dither, 0 to 100", "the smallest gain, 1 to ONE"};
        for (int i = 0; i < 7; i++) {
            int what = i;
            Checks.sentence("set, " + names[i]);
            ends("value", Model.RANGES[i][0], Model.RANGES[i][1], ARGUMENT, (x, v) -> x.set(what, v));
        }
        Checks.sentence("set, what: 0 to 6");
        // 50000 is right for none but 0, 65000 for none but 0 and 6.
        Twins.dueAllowed("set(0, 65000)", SelfTuner::new, x -> x.set(0, 65000));
        Twins.dueAllowed("set(6, 65000)", SelfTuner::new, x -> x.set(6, 65000));
        for (int v : new int[] {0, 2, 50, 60000}) {
            refused("set(-1, " + v + "), what", -1, ARGUMENT, (x, what) -> x.set(what, v));
            refused("set(7, " + v + "), what", 7, ARGUMENT, (x, what) -> x.set(what, v));
        }
        refused("set(.., 2), what", Integer.MIN_VALUE, ARGUMENT, (x, what) -> x.set(what, 2));
        refused("set(.., 2), what", Integer.MAX_VALUE, ARGUMENT, (x, what) -> x.set(what, 2));
    }

    private static void promise3Value() {
        Checks.sentence("value, what: 0 to 6");
        ends("what", 0, 6, ARGUMENT, SelfTuner::value);
    }

    private static void promise4SetBox() {
        Checks.sentence("setBox, parameter: 0 to 2");
        ends("parameter", 0, 2, INDEX, (x, i) -> x.setBox(i, -5, 5));
        for (int i = 0; i < 3; i++) {
            int parameter = i;
            Checks.sentence("The box of each parameter has a low end, from -(20 * ONE)");
            allowed("low", -END, (x, v) -> x.setBox(parameter, v, 0));
            refused("low", -END - 1, ARGUMENT, (x, v) -> x.setBox(parameter, v, 0));
            refused("low", Integer.MIN_VALUE, ARGUMENT, (x, v) -> x.setBox(parameter, v, 0));
            Checks.sentence("The low end, to 20 * ONE");
            allowed("low", END, (x, v) -> x.setBox(parameter, v, v));
            refused("low", END + 1, ARGUMENT, (x, v) -> x.setBox(parameter, v, v));
            refused("low", Integer.MAX_VALUE, ARGUMENT, (x, v) -> x.setBox(parameter, v, v));
            Checks.sentence("The high end, from -(20 * ONE)");
            allowed("high", -END, (x, v) -> x.setBox(parameter, v, v));
            refused("high", -END - 1, ARGUMENT, (x, v) -> x.setBox(parameter, v, v));
            refused("high", Integer.MIN_VALUE, ARGUMENT, (x, v) -> x.setBox(parameter, v, v));
            Checks.sentence("The high end, to 20 * ONE");
            allowed("high", END, (x, v) -> x.setBox(parameter, 0, v));
            refused("high", END + 1, ARGUMENT, (x, v) -> x.setBox(parameter, 0, v));
            refused("high", Integer.MAX_VALUE, ARGUMENT, (x, v) -> x.setBox(parameter, 0, v));
        }
    }

    private static void promise4LowAboveHigh() {
        Checks.sentence("setBox throws IllegalArgumentException if low is above high");
        for (int at : new int[] {-END, -1, 0, 1, 77, END}) {
            allowed("low = high", at, (x, v) -> x.setBox(1, v, v));
            if (at > -END) {
                refused("high = low - 1, low", at, ARGUMENT, (x, v) -> x.setBox(1, v, v - 1));
            }
            if (at < END) {
                allowed("high = low + 1, low", at, (x, v) -> x.setBox(1, v, v + 1));
            }
        }
        refused("the whole range turned round, low", END, ARGUMENT, (x, v) -> x.setBox(0, v, -v));
    }

    private static void promise4WhichException() {
        Checks.sentence("setBox: of several exceptions the one that is listed first");
        for (int i : new int[] {-1, 3, Integer.MIN_VALUE, Integer.MAX_VALUE}) {
            refused("low above high, parameter", i, INDEX, (x, v) -> x.setBox(v, 1, 0));
            refused("low too low, parameter", i, INDEX, (x, v) -> x.setBox(v, -END - 1, 0));
            refused("high too high, parameter", i, INDEX, (x, v) -> x.setBox(v, 0, END + 1));
        }
    }

    private static void promise5Box() {
        Checks.sentence("box, parameter: 0 to 2");
        ends("parameter of the high end", 0, 2, INDEX, (x, i) -> x.box(i, true));
        ends("parameter of the low end", 0, 2, INDEX, (x, i) -> x.box(i, false));
    }

    private static void promise6SetPlant() {
        Checks.sentence("setPlant, p: -3000 to 3000");
        ends("p", -3000, 3000, ARGUMENT, (x, v) -> x.setPlant(v, 1, 2, 3));
        Checks.sentence("setPlant, q: -3000 to 3000");
        ends("q", -3000, 3000, ARGUMENT, (x, v) -> x.setPlant(1, v, 2, 3));
        Checks.sentence("setPlant, c: -3000 to 3000");
        ends("c", -3000, 3000, ARGUMENT, (x, v) -> x.setPlant(1, 2, v, 3));
        Checks.sentence("setPlant, noise: 0 to 200");
        ends("noise", 0, 200, ARGUMENT, (x, v) -> x.setPlant(1, 2, 3, v));
    }

    private static void promise7Seed() {
        Checks.sentence("seed, seed: 0 to 999999");
        ends("seed", 0, 999999, ARGUMENT, (x, v) -> x.seed(v, 5));
        Checks.sentence("seed, output: -2000 to 2000");
        ends("output", -2000, 2000, ARGUMENT, (x, v) -> x.seed(5, v));
    }

    private static void promise8Sample() {
        Checks.sentence("A sample consists of an output y (-2000 to 2000)");
        ends("y", -2000, 2000, ARGUMENT, (x, v) -> x.sample(v, 1, 900));
        Checks.sentence("an input u (-2000 to 2000)");
        ends("u", -2000, 2000, ARGUMENT, (x, v) -> x.sample(1, v, 900));
        Checks.sentence("and the output z after it (-4000 to 4000)");
        ends("z", -4000, 4000, ARGUMENT, (x, v) -> x.sample(1, 2, v));
    }

    private static void promise10Parameter() {
        Checks.sentence("parameter, parameter: 0 to 2");
        ends("parameter", 0, 2, INDEX, SelfTuner::parameter);
    }

    private static void promise11Covariance() {
        for (int i = 0; i < 3; i++) {
            int other = i;
            Checks.sentence("covariance, i: 0 to 2");
            ends("i with j = " + other, 0, 2, INDEX, (x, v) -> x.covariance(v, other));
            Checks.sentence("covariance, j: 0 to 2");
            ends("j with i = " + other, 0, 2, INDEX, (x, v) -> x.covariance(other, v));
        }
        Checks.sentence("covariance throws IndexOutOfBoundsException if i or j is out of range");
        // Together they would be an index of P, held in one row or not.
        refused("(-1, 3), i", -1, INDEX, (x, v) -> x.covariance(v, 3));
        refused("(3, -1), i", 3, INDEX, (x, v) -> x.covariance(v, -1));
        refused("(1, -3), j", -3, INDEX, (x, v) -> x.covariance(1, v));
        refused("(0, 8), j", 8, INDEX, (x, v) -> x.covariance(0, v));
    }

    private static void promise12Count() {
        Checks.sentence("count, what: 0 to 4");
        ends("what", 0, 4, ARGUMENT, SelfTuner::count);
    }

    private static void promise13Predict() {
        Checks.sentence("predict, y: -2000 to 2000");
        ends("y", -2000, 2000, ARGUMENT, (x, v) -> x.predict(v, 5));
        Checks.sentence("predict, u: -2000 to 2000");
        ends("u", -2000, 2000, ARGUMENT, (x, v) -> x.predict(5, v));
    }

    private static void promise14Uncertainty() {
        Checks.sentence("uncertainty, y: -2000 to 2000");
        ends("y", -2000, 2000, ARGUMENT, (x, v) -> (long) x.uncertainty(v, 5));
        Checks.sentence("uncertainty, u: -2000 to 2000");
        ends("u", -2000, 2000, ARGUMENT, (x, v) -> (long) x.uncertainty(5, v));
    }

    private static void promise18Control() {
        Checks.sentence("control, r: -2000 to 2000");
        ends("r", -2000, 2000, ARGUMENT, (x, v) -> x.control(v, 5));
        Checks.sentence("control, y: -2000 to 2000");
        ends("y", -2000, 2000, ARGUMENT, (x, v) -> x.control(5, v));
    }

    private static void promise19Run() {
        Checks.sentence("run, r: -2000 to 2000");
        ends("r", -2000, 2000, ARGUMENT, (x, v) -> x.run(v, 5));
        ends("r of no steps", -2000, 2000, ARGUMENT, (x, v) -> x.run(v, 0));
        Checks.sentence("run, steps: 0 to 500");
        ends("steps", 0, 500, ARGUMENT, (x, v) -> x.run(5, v));
    }

    private static void promise20Drive() {
        Checks.sentence("drive, u: -2000 to 2000");
        ends("u", -2000, 2000, ARGUMENT, (x, v) -> x.drive(v, 5));
        ends("u of no steps", -2000, 2000, ARGUMENT, (x, v) -> x.drive(v, 0));
        Checks.sentence("drive, steps: 0 to 500");
        ends("steps", 0, 500, ARGUMENT, (x, v) -> x.drive(5, v));
    }

    private static void promise22Bias() {
        Checks.sentence("bias, parameter: 0 to 2");
        ends("parameter", 0, 2, INDEX, SelfTuner::bias);
    }

    private static void promise23CostOf() {
        Checks.sentence("costOf, r: -2000 to 2000");
        ends("r", -2000, 2000, ARGUMENT, (x, v) -> x.costOf(v, 5));
        ends("r of no steps", -2000, 2000, ARGUMENT, (x, v) -> x.costOf(v, 0));
        Checks.sentence("costOf, steps: 0 to 500");
        ends("steps", 0, 500, ARGUMENT, (x, v) -> x.costOf(5, v));
    }

    private static void promise24Settling() {
        Checks.sentence("settling, r: -2000 to 2000");
        ends("r", -2000, 2000, ARGUMENT, (x, v) -> x.settling(v, 5));
        Checks.sentence("settling, tolerance: 0 to 500");
        ends("tolerance", 0, 500, ARGUMENT, (x, v) -> x.settling(5, v));
    }

    private static void promise25BestDither() {
        Checks.sentence("bestDither, r: -2000 to 2000");
        ends("r", -2000, 2000, ARGUMENT, (x, v) -> x.bestDither(v, 5, 6));
        Checks.sentence("bestDither, steps: 1 to 50");
        ends("steps", 1, 50, ARGUMENT, (x, v) -> x.bestDither(5, v, 6));
        Checks.sentence("bestDither, most: 0 to 100");
        ends("most", 0, 100, ARGUMENT, (x, v) -> x.bestDither(5, 6, v));
    }

    private static void promise26Append() {
        Checks.sentence("append, value: 0 to 127");
        ends("value", 0, 127, ARGUMENT, SelfTuner::append);
        // 48 + 128 and 48 - 256 have the lowest bits of a digit.
        refused("value", 176, ARGUMENT, SelfTuner::append);
        refused("value", -208, ARGUMENT, SelfTuner::append);
        Checks.sentence("append throws IllegalStateException if the text has 120 bytes");
        for (int v : new int[] {0, 48, 59, 127}) {
            Twins.dueRefused("append(" + v + ") to 120 bytes", Twins::full, STATE, x -> x.append(v));
        }
        Twins.dueRefused("append(48) to 120 digits", RefusedCallsTest::fullOfDigits, STATE, x -> x.append(48));
    }

    /** The hundred and twentieth byte still has room. */
    private static SelfTuner fullOfDigits() {
        SelfTuner x = new SelfTuner();
        for (int i = 1; i <= 120; i++) {
            Checks.due("append(49)", x.append(49), i);
        }
        return x;
    }

    private static void promise26WhichException() {
        Checks.sentence("append: of several exceptions the one that is listed first");
        for (int v : new int[] {-1, 128, Integer.MIN_VALUE, Integer.MAX_VALUE}) {
            Twins.dueRefused("append(" + v + ") to 120 bytes", Twins::full, ARGUMENT, x -> x.append(v));
        }
    }

    private static void promise29Undo() {
        Checks.sentence("undo throws IllegalStateException if there is no saved state");
        Twins.dueRefused("undo() of a new object", SelfTuner::new, STATE, SelfTuner::undo);
        Twins.dueRefused("the fifth undo()", RefusedCallsTest::undone, STATE, SelfTuner::undo);
        Twins.dueAllowed("undo() of one saved state", () -> {
            SelfTuner x = new SelfTuner();
            x.set(1, 1);
            return x;
        }, SelfTuner::undo);
    }

    private static SelfTuner undone() {
        SelfTuner x = Twins.busy();
        for (int i = 3; i >= 0; i--) {
            Checks.due("undo()", x.undo(), i);
        }
        return x;
    }
}
