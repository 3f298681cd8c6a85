/** Promises 18 and 19: the control law and closed steps. */
public final class ControlTest {
    public static void main(String[] args) {
        Checks.run(ControlTest::promise18Control);
        Checks.run(ControlTest::promise18SmallestGain);
        Checks.run(ControlTest::promise18NegativeGain);
        Checks.run(ControlTest::promise18DitherAndLimit);
        Checks.run(ControlTest::promise18Wrong);
        Checks.run(ControlTest::promise19Run);
        Checks.run(ControlTest::promise19Dither);
        Checks.run(ControlTest::promise19Wrong);
        Checks.end("ControlTest");
    }

    private static SelfTuner with(int a, int b, int c) {
        SelfTuner x = new SelfTuner();
        x.setBox(0, a, a);
        x.setBox(1, b, b);
        x.setBox(2, c, c);
        return x;
    }

    private static void promise18Control() {
        Checks.due("the first parameters", new SelfTuner().control(123, 99), 123);
        SelfTuner x = with(32768, 131072, -65536);
        Checks.due("(10 - 3 + 1) / 2", x.control(10, 6), 4);
        Checks.due("(10 - 3.5 + 1) / 2, rounded down", x.control(10, 7), 3);
        Checks.due("(-10 + 3.5 + 1) / 2, rounded down", x.control(-10, -7), -3);
        Checks.due("(-10 + 2.5 + 1) / 2, rounded down", x.control(-10, -5), -4);
        Checks.dueUnchanged("control(10, 6)", x, () -> x.control(10, 6));
    }

    private static void promise18SmallestGain() {
        Checks.due("655360 / 3277 for b = 0", with(0, 0, 0).control(10, 0), 199);
        Checks.due("for b = 3276", with(0, 3276, 0).control(10, 0), 199);
        Checks.due("b = 3277 stays", with(0, 3277, 0).control(10, 0), 199);
        Checks.due("b = 3300 stays", with(0, 3300, 0).control(10, 0), 198);
        Checks.due("for b = -1, rounded down", with(0, -1, 0).control(10, 0), -200);
        Checks.due("for b = -3276", with(0, -3276, 0).control(-10, 0), 199);
        Checks.due("b = -3300 stays", with(0, -3300, 0).control(10, 0), -199);
        SelfTuner x = with(0, 1, 0);
        x.set(6, 1);
        x.set(4, 2000);
        Checks.due("b = 1 and the smallest r", x.control(-2000, 0), -2000);
        Checks.due("the gain of 1 for one unit", with(0, 65535, 0).control(100, 0), 100);
        x.set(6, 65536);
        Checks.due("the greatest smallest gain", x.control(100, 0), 100);
    }

    private static void promise18NegativeGain() {
        Checks.due("-1 / ONE, rounded down", with(0, 65536, 1).control(0, 0), -1);
        Checks.due("1 / ONE, rounded down", with(0, -65536, 1).control(0, 0), 0);
        Checks.due("-(-1) behind the negation", with(0, -65536, -1).control(0, 0), -1);
        Checks.due("50 / -2", with(0, -131072, 0).control(51, 0), -26);
    }

    private static void promise18DitherAndLimit() {
        SelfTuner x = new SelfTuner();
        x.set(4, 100);
        Checks.due("at the limit", x.control(100, 0), 100);
        Checks.due("above the limit", x.control(101, 0), 100);
        Checks.due("below the other limit", x.control(-101, 0), -100);
        x.set(5, 10);
        Checks.due("the dither is added", x.control(20, 0), 30);
        Checks.due("the limit comes behind the dither", x.control(95, 0), 100);
        Checks.due("far above", x.control(150, 0), 100);
        x.sample(0, 0, 0);
        Checks.due("the dither is subtracted", x.control(20, 0), 10);
        Checks.due("from what is not yet limited", x.control(108, 0), 98);
        Checks.due("down to the limit", x.control(-95, 0), -100);
        x.sample(0, 0, 0);
        Checks.due("and added again", x.control(-105, 0), -95);
        x.set(4, 1);
        x.set(5, 100);
        Checks.due("the smallest limit", x.control(-50, 0), 1);
    }

    private static void promise18Wrong() {
        SelfTuner x = new SelfTuner();
        Checks.due("control(2000, -2000)", x.control(2000, -2000), 500);
        Checks.due("control(-2000, 2000)", x.control(-2000, 2000), -500);
        Checks.dueArgument("control(2001, 0)", x, () -> x.control(2001, 0));
        Checks.dueArgument("control(-2001, 0)", x, () -> x.control(-2001, 0));
        Checks.dueArgument("control(0, 2001)", x, () -> x.control(0, 2001));
        Checks.dueArgument("control(0, -2001)", x, () -> x.control(0, -2001));
    }

    private static void promise19Run() {
        SelfTuner x = new SelfTuner();
        Checks.due("run(100, 1): the input 100", x.run(100, 1), 50);
        Checks.due("one sample", x.count(0), 1);
        int u = x.control(100, 50);
        Checks.due("the next input is that of control", x.run(100, 1), (800 * 50 + 500 * u) / 1000);
        Checks.due("run(100, 28)", x.run(100, 28), 100);
        Checks.due("run(100, 0)", x.run(100, 0), 100);
        Checks.due("thirty samples", x.count(0), 30);
        Checks.dueUndoable("run(100, 0)", x, () -> x.run(100, 0));
        Checks.dueUndoable("run(-30, 9)", x, () -> x.run(-30, 9));
        SelfTuner one = new SelfTuner();
        SelfTuner all = new SelfTuner();
        one.setPlant(700, -300, 50, 20);
        all.setPlant(700, -300, 50, 20);
        for (int i = 0; i < 40; i++) {
            int y = one.output();
            int input = one.control(60, y);
            one.drive(input, 1);
        }
        all.run(60, 40);
        Checks.due("a closed step is one with the input of control: output", all.output(), one.output());
        Checks.due("parameter(0)", all.parameter(0), one.parameter(0));
        Checks.due("parameter(1)", all.parameter(1), one.parameter(1));
        Checks.due("covariance(1, 2)", all.covariance(1, 2), one.covariance(1, 2));
        Checks.due("determinant()", all.determinant(), one.determinant());
        all.run(2000, 500);
        Checks.due("500 steps", all.count(0), 540);
        all.run(-2000, 1);
        Checks.due("and one with the smallest r", all.count(0), 541);
    }

    private static void promise19Dither() {
        SelfTuner x = with(0, 65536, 0);
        x.setPlant(0, 1000, 0, 0);
        x.set(5, 7);
        Checks.due("the first step adds the dither", x.run(50, 1), 57);
        Checks.due("the second subtracts it", x.run(50, 1), 43);
        Checks.due("two more", x.run(50, 2), 43);
    }

    private static void promise19Wrong() {
        SelfTuner x = new SelfTuner();
        Checks.dueArgument("run(2001, 1)", x, () -> x.run(2001, 1));
        Checks.dueArgument("run(-2001, 1)", x, () -> x.run(-2001, 1));
        Checks.dueArgument("run(0, -1)", x, () -> x.run(0, -1));
        Checks.dueArgument("run(0, 501)", x, () -> x.run(0, 501));
        Checks.dueArgument("run(0, MAX)", x, () -> x.run(0, Integer.MAX_VALUE));
        Checks.dueState("undo() behind failing calls", x, x::undo);
    }
}
