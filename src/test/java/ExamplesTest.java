/** The examples of the document, in its order. */
public final class ExamplesTest {
    public static void main(String[] args) {
        Checks.run(ExamplesTest::example1);
        Checks.run(ExamplesTest::example2);
        Checks.run(ExamplesTest::example3);
        Checks.run(ExamplesTest::example4);
        Checks.run(ExamplesTest::example5);
        Checks.due("NONE", SelfTuner.NONE, -1);
        Checks.end("ExamplesTest");
    }

    private static void example1() {
        SelfTuner x = new SelfTuner();
        Checks.due("sample(0, 10, 5)", x.sample(0, 10, 5), -5);
        Checks.due("parameter(1)", x.parameter(1), 33096);
        Checks.due("covariance(1, 1)", x.covariance(1, 1), 66263);
        Checks.due("predict(0, 10)", x.predict(0, 10), 5);
        Checks.due("count(0)", x.count(0), 1);
        Checks.due("inWindow()", x.inWindow(), 1);
    }

    private static void example2() {
        SelfTuner x = new SelfTuner();
        Checks.due("run(100, 30)", x.run(100, 30), 100);
        Checks.due("output()", x.output(), 100);
        Checks.due("bias(0)", x.bias(0), -130);
        Checks.due("settling(-50, 5)", x.settling(-50, 5), 5);
        Checks.due("costOf(-50, 20)", x.costOf(-50, 20), 20);
    }

    private static void example3() {
        SelfTuner x = new SelfTuner();
        Checks.due("setBox(1, 6554, 131072)", x.setBox(1, 6554, 131072), 0);
        Checks.due("sample(0, 100, -400)", x.sample(0, 100, -400), -500);
        Checks.due("parameter(1)", x.parameter(1), 6554);
        Checks.due("count(3)", x.count(3), 1);
        Checks.due("control(100, 0)", x.control(100, 0), 500);
    }

    private static void example4() {
        SelfTuner x = new SelfTuner();
        Checks.due("set(1, 500)", x.set(1, 500), 2);
        Checks.due("sample(0, 0, 500)", x.sample(0, 0, 500), 500);
        Checks.due("count(1)", x.count(1), 1);
        Checks.due("sample(0, 0, 501)", x.sample(0, 0, 501), 501);
        Checks.due("parameter(2)", x.parameter(2), 1310720);
    }

    private static void example5() {
        SelfTuner x = new SelfTuner();
        Checks.due("append(49)", x.append(49), 1);
        Checks.due("replay()", x.replay(), -11);
        Checks.dueArgument("sample(2001, 0, 0)", x, () -> x.sample(2001, 0, 0));
        Checks.dueIndex("covariance(3, 0)", x, () -> x.covariance(3, 0));
        Checks.dueState("undo()", x, x::undo);
    }
}
