/** The sentences of "Control law" that name a bound, and closed steps at their bounds. */
public final class ControlEdgesTest {
    private static final int ONE = 65536;
    private static final int END = 20 * ONE;

    public static void main(String[] args) {
        Checks.run(ControlEdgesTest::smallestGain);
        Checks.run(ControlEdgesTest::signOfTheSmallestGain);
        Checks.run(ControlEdgesTest::endsOfTheSmallestGain);
        Checks.run(ControlEdgesTest::rounding);
        Checks.run(ControlEdgesTest::negativeGain);
        Checks.run(ControlEdgesTest::greatestNumerators);
        Checks.run(ControlEdgesTest::ditherOfEvenAndOdd);
        Checks.run(ControlEdgesTest::numberOfSamplesForTheDither);
        Checks.run(ControlEdgesTest::endsOfTheDither);
        Checks.run(ControlEdgesTest::limits);
        Checks.run(ControlEdgesTest::limitBehindTheDither);
        Checks.run(ControlEdgesTest::endsOfTheLimit);
        Checks.run(ControlEdgesTest::stateStays);
        Checks.run(ControlEdgesTest::runOfNoSteps);
        Checks.run(ControlEdgesTest::runOfAllSteps);
        Checks.run(ControlEdgesTest::closedStep);
        Checks.end("ControlEdgesTest");
    }

    private static void put(SelfTuner x, int parameter, int value) {
        x.setBox(parameter, value, value);
        x.setBox(parameter, -END, END);
    }

    private static SelfTuner with(int a, int b, int c) {
        SelfTuner x = new SelfTuner();
        put(x, 0, a);
        put(x, 1, b);
        put(x, 2, c);
        x.set(4, 2000);
        return x;
    }

    /** The input for the numerator ONE * r with that parameter 1 and that smallest gain. */
    private static int input(int b, int smallest, int r) {
        SelfTuner x = with(0, b, 0);
        x.set(6, smallest);
        return x.control(r, 0);
    }

    private static void smallestGain() {
        Checks.sentence("if |b| is less than the smallest gain, b is the smallest gain");
        // 65536 / 64 = 1024, / 63 = 1040, / 65 = 1008
        Checks.due("b = 63", input(63, 64, 1), 1024);
        Checks.due("b = 64", input(64, 64, 1), 1024);
        Checks.due("b = 65", input(65, 64, 1), 1008);
        Checks.due("b = 63 for the smallest gain 63", input(63, 63, 1), 1040);
        Checks.due("b = -63", input(-63, 64, 1), -1024);
        Checks.due("b = -64", input(-64, 64, 1), -1024);
        Checks.due("b = -65", input(-65, 64, 1), -1009);
        Checks.due("the first smallest gain, b = 3276", with(0, 3276, 0).control(100, 0), 1999);
        Checks.due("the first smallest gain, b = 3278", with(0, 3278, 0).control(100, 0), 1999);
        Checks.due("the first smallest gain, b = 3280", with(0, 3280, 0).control(100, 0), 1998);
    }

    private static void signOfTheSmallestGain() {
        Checks.sentence("... with the sign of parameter 1 (plus if that is 0)");
        Checks.due("parameter 1 = 0", input(0, 64, 1), 1024);
        Checks.due("parameter 1 = 1", input(1, 64, 1), 1024);
        Checks.due("parameter 1 = -1", input(-1, 64, 1), -1024);
        Checks.due("parameter 1 = 0, r below 0", input(0, 64, -1), -1024);
        Checks.due("parameter 1 = -1, r below 0", input(-1, 64, -1), 1024);
    }

    private static void endsOfTheSmallestGain() {
        Checks.sentence("the smallest gain in fixed point, 1 to ONE");
        SelfTuner x = with(0, 1, 1);
        x.set(6, 1);
        Checks.due("1: b = 1 stays", x.control(0, 0), -1);
        put(x, 1, 0);
        put(x, 2, -7);
        Checks.due("1: b = 0 becomes 1", x.control(0, 0), 7);
        put(x, 1, -1);
        Checks.due("1: b = -1 stays", x.control(0, 0), -7);
        Checks.due("ONE: b = ONE - 1 becomes ONE", input(ONE - 1, ONE, 2000), 2000);
        Checks.due("ONE: b = 2 * ONE stays", input(2 * ONE, ONE, 2000), 1000);
        Checks.due("ONE: b = -5 becomes -ONE", input(-5, ONE, 1999), -1999);
    }

    private static void rounding() {
        Checks.sentence("(ONE * r - parameter 0 * y - parameter 2) / b, rounded down");
        Checks.due("1 / 2", with(0, 2 * ONE, 0).control(1, 0), 0);
        Checks.due("-1 / 2", with(0, 2 * ONE, 0).control(-1, 0), -1);
        Checks.due("-2 / 2", with(0, 2 * ONE, 0).control(-2, 0), -1);
        Checks.due("-3 / 2", with(0, 2 * ONE, 0).control(-3, 0), -2);
        Checks.due("(ONE - 1) / ONE", with(0, ONE, 1).control(1, 0), 0);
        Checks.due("-1 / ONE by parameter 0", with(1, ONE, 0).control(0, 1), -1);
        Checks.due("1 / ONE by parameter 0", with(1, ONE, 0).control(0, -1), 0);
    }

    private static void negativeGain() {
        Checks.sentence("(with a negative b, numerator and denominator are negated first)");
        Checks.due("1 / -2", with(0, -2 * ONE, 0).control(1, 0), -1);
        Checks.due("-1 / -2", with(0, -2 * ONE, 0).control(-1, 0), 0);
        Checks.due("2 / -2", with(0, -2 * ONE, 0).control(2, 0), -1);
        Checks.due("3 / -2", with(0, -2 * ONE, 0).control(3, 0), -2);
        Checks.due("0 / -2", with(0, -2 * ONE, 0).control(0, 0), 0);
        Checks.due("1 / -20", with(0, -END, 0).control(1, 0), -1);
    }

    private static void greatestNumerators() {
        Checks.sentence("All intermediate results fit into long: the greatest inputs before the limit");
        // The numerators are about 42020 * ONE; by a gain of 1 that is beyond int.
        for (int b : new int[] {0, 1, -1}) {
            int sign = b < 0 ? -1 : 1;
            SelfTuner x = with(-END, b, -END);
            x.set(6, 1);
            Checks.due("greatest, b = " + b, x.control(2000, 2000), 2000 * sign);
            put(x, 0, END);
            put(x, 2, END);
            Checks.due("least, b = " + b, x.control(-2000, 2000), -2000 * sign);
            Checks.due("greatest by y, b = " + b, x.control(2000, -2000), 2000 * sign);
        }
        Checks.due("42020 / 20", with(-END, END, -END).control(2000, 2000), 2000);
        SelfTuner less = with(-END, END, -END);
        Checks.due("(-2000 + 20 * 1000 + 20) / 20", less.control(-2000, 1000), 901);
    }

    private static void ditherOfEvenAndOdd() {
        Checks.sentence("the dither is added if the number of samples is even, and subtracted if it is odd");
        SelfTuner x = with(0, ONE, 0);
        x.set(5, 3);
        for (int i = 0; i < 6; i++) {
            Checks.due("behind " + i + " samples", x.control(20, 0), i % 2 == 0 ? 23 : 17);
            x.sample(0, 0, i % 3);
        }
    }

    private static void numberOfSamplesForTheDither() {
        Checks.sentence("the number of samples: ignored ones count, those before restart() do not");
        SelfTuner x = with(0, ONE, 0);
        x.set(5, 3);
        x.sample(0, 0, 1);
        Checks.due("the sample was ignored", x.count(1), 1);
        Checks.due("behind an ignored sample", x.control(20, 0), 17);
        x.restart();
        Checks.due("behind restart()", x.control(20, 0), 23);
        x.undo();
        Checks.due("behind undo() of it", x.control(20, 0), 17);
        x.undo();
        Checks.due("behind undo() of the sample", x.control(20, 0), 23);
    }

    private static void endsOfTheDither() {
        Checks.sentence("the dither, 0 to 100");
        SelfTuner x = with(0, ONE, 0);
        x.set(5, 100);
        Checks.due("100 is added", x.control(20, 0), 120);
        x.sample(0, 0, 0);
        Checks.due("100 is subtracted", x.control(20, 0), -80);
        x.set(5, 0);
        Checks.due("0 is subtracted", x.control(20, 0), 20);
    }

    private static void limits() {
        Checks.sentence("then it is brought into -(input limit) to (input limit)");
        SelfTuner x = with(0, ONE, 0);
        x.set(4, 50);
        Checks.due("49", x.control(49, 0), 49);
        Checks.due("50", x.control(50, 0), 50);
        Checks.due("51", x.control(51, 0), 50);
        Checks.due("-49", x.control(-49, 0), -49);
        Checks.due("-50", x.control(-50, 0), -50);
        Checks.due("-51", x.control(-51, 0), -50);
    }

    private static void limitBehindTheDither() {
        Checks.sentence("then the dither ...; then it is brought into the limits");
        SelfTuner x = with(0, ONE, 0);
        x.set(4, 50);
        x.set(5, 10);
        Checks.due("40 + 10", x.control(40, 0), 50);
        Checks.due("41 + 10", x.control(41, 0), 50);
        Checks.due("-60 + 10", x.control(-60, 0), -50);
        Checks.due("-61 + 10", x.control(-61, 0), -50);
        Checks.due("-55 + 10", x.control(-55, 0), -45);
        x.sample(0, 0, 0);
        Checks.due("60 - 10", x.control(60, 0), 50);
        Checks.due("61 - 10", x.control(61, 0), 50);
        Checks.due("55 - 10", x.control(55, 0), 45);
        Checks.due("-40 - 10", x.control(-40, 0), -50);
        Checks.due("-41 - 10", x.control(-41, 0), -50);
    }

    private static void endsOfTheLimit() {
        Checks.sentence("the input limit, 1 to 2000");
        SelfTuner x = with(0, ONE / 2, 0);
        x.set(4, 1);
        Checks.due("1 of 2", x.control(1, 0), 1);
        Checks.due("-1 of -2", x.control(-1, 0), -1);
        Checks.due("0", x.control(0, 0), 0);
        x.set(4, 2000);
        Checks.due("1998", x.control(999, 0), 1998);
        Checks.due("2000", x.control(1000, 0), 2000);
        Checks.due("2000 of 2002", x.control(1001, 0), 2000);
        Checks.due("-2000 of -2002", x.control(-1001, 0), -2000);
        Checks.due("the first limit", new SelfTuner().control(501, 0), 500);
        Checks.due("and below", new SelfTuner().control(-501, 0), -500);
    }

    private static void stateStays() {
        Checks.sentence("control: The state does not change");
        Twins.dueNoTrace("control(2000, -2000)", Twins::busy, x -> x.control(2000, -2000));
        Twins.dueNoTrace("control(0, 0)", SelfTuner::new, x -> x.control(0, 0));
    }

    private static void runOfNoSteps() {
        Checks.sentence("run, steps: 0");
        SelfTuner x = Twins.busy();
        int output = x.output();
        int samples = x.count(0);
        Checks.due("run(1000, 0) returns the output", x.run(1000, 0), output);
        Checks.due("count(0)", x.count(0), samples);
        Checks.dueUndoable("run(1000, 0)", x, () -> x.run(1000, 0));
    }

    private static void runOfAllSteps() {
        Checks.sentence("run, steps: 500");
        SelfTuner x = Twins.busy();
        SelfTuner y = Twins.busy();
        int samples = x.count(0);
        int last = 0;
        for (int i = 0; i < 250; i++) {
            last = y.run(-77, 2);
        }
        Checks.due("run(-77, 500)", x.run(-77, 500), last);
        Checks.due("count(0)", x.count(0), samples + 500);
        Checks.due("the same digest", x.digest(), y.digest());
    }

    private static void closedStep() {
        Checks.sentence("A closed step: the sample of the output before, u, and the output after");
        SelfTuner x = Twins.busy();
        SelfTuner y = Twins.busy();
        for (int i = 0; i < 30; i++) {
            int r = i % 2 == 0 ? 2000 : -2000;
            int before = y.output();
            int u = y.control(r, before);
            int after = y.drive(u, 1);
            Checks.due("run(" + r + ", 1)", x.run(r, 1), after);
        }
        Checks.due("the same digest", x.digest(), y.digest());
    }
}
