/** Promises 6, 7 and 20 to 22: the plant, open steps, output and bias. */
public final class PlantTest {
    public static void main(String[] args) {
        Checks.run(PlantTest::promise6SetPlant);
        Checks.run(PlantTest::promise6Wrong);
        Checks.run(PlantTest::promise7Seed);
        Checks.run(PlantTest::promise20Drive);
        Checks.run(PlantTest::promise20Noise);
        Checks.run(PlantTest::promise20Wrong);
        Checks.run(PlantTest::promise21Output);
        Checks.run(PlantTest::promise22Bias);
        Checks.end("PlantTest");
    }

    private static void promise6SetPlant() {
        SelfTuner x = new SelfTuner();
        x.seed(3, 77);
        Checks.due("setPlant to the most", x.setPlant(3000, 3000, 3000, 200), 77);
        Checks.due("setPlant to the least", x.setPlant(-3000, -3000, -3000, 0), 77);
        Checks.due("the output stays", x.output(), 77);
        Checks.due("setPlant(2000, 100, 3000, 0)", x.setPlant(2000, 100, 3000, 0), 77);
        Checks.due("2 * 77 + 20 / 10 + 3", x.drive(20, 1), 159);
        Checks.dueUndoable("setPlant(1, 2, 3, 4)", x, () -> x.setPlant(1, 2, 3, 4));
        Checks.dueUndoable("setPlant to the same", x, () -> x.setPlant(2000, 100, 3000, 0));
    }

    private static void promise6Wrong() {
        SelfTuner x = new SelfTuner();
        Checks.dueArgument("setPlant(3001, 0, 0, 0)", x, () -> x.setPlant(3001, 0, 0, 0));
        Checks.dueArgument("setPlant(-3001, 0, 0, 0)", x, () -> x.setPlant(-3001, 0, 0, 0));
        Checks.dueArgument("setPlant(0, 3001, 0, 0)", x, () -> x.setPlant(0, 3001, 0, 0));
        Checks.dueArgument("setPlant(0, -3001, 0, 0)", x, () -> x.setPlant(0, -3001, 0, 0));
        Checks.dueArgument("setPlant(0, 0, 3001, 0)", x, () -> x.setPlant(0, 0, 3001, 0));
        Checks.dueArgument("setPlant(0, 0, -3001, 0)", x, () -> x.setPlant(0, 0, -3001, 0));
        Checks.dueArgument("setPlant(0, 0, 0, 201)", x, () -> x.setPlant(0, 0, 0, 201));
        Checks.dueArgument("setPlant(0, 0, 0, -1)", x, () -> x.setPlant(0, 0, 0, -1));
        Checks.dueState("undo() behind failing calls", x, x::undo);
    }

    private static void promise7Seed() {
        SelfTuner x = new SelfTuner();
        Checks.due("seed(0, 2000)", x.seed(0, 2000), 0);
        Checks.due("seed(999999, -2000)", x.seed(999999, -2000), 2000);
        Checks.due("output()", x.output(), -2000);
        Checks.due("seed(5, 7)", x.seed(5, 7), -2000);
        x.setPlant(0, 0, 0, 200);
        // (1103515245 * 5 + 12345) modulo 2147483648 is 1222621274, and 18655 modulo 401 is 209.
        Checks.due("the noise behind seed 5", x.drive(0, 1), 9);
        Checks.dueUndoable("seed(6, 6)", x, () -> x.seed(6, 6));
        Checks.dueArgument("seed(-1, 0)", x, () -> x.seed(-1, 0));
        Checks.dueArgument("seed(1000000, 0)", x, () -> x.seed(1000000, 0));
        Checks.dueArgument("seed(0, 2001)", x, () -> x.seed(0, 2001));
        Checks.dueArgument("seed(0, -2001)", x, () -> x.seed(0, -2001));
    }

    private static void promise20Drive() {
        SelfTuner x = new SelfTuner();
        Checks.due("drive(100, 1)", x.drive(100, 1), 50);
        Checks.due("drive(100, 1) once more", x.drive(100, 1), 90);
        Checks.due("two samples were taken", x.count(0), 2);
        Checks.due("the regressors are (0, 100) and (50, 100)", x.determinant(), 2500L * 20000 - 5000L * 5000);
        Checks.due("drive(7, 0)", x.drive(7, 0), 90);
        Checks.dueUndoable("drive(7, 0)", x, () -> x.drive(7, 0));
        Checks.dueUndoable("drive(7, 9)", x, () -> x.drive(7, 9));
        Checks.due("500 steps", x.drive(2000, 500), 2000);
        Checks.due("all of them were taken", x.count(0), 502);
        SelfTuner down = new SelfTuner();
        down.seed(1, -1);
        Checks.due("-800 / 1000, rounded down", down.drive(0, 1), -1);
        down.setPlant(3000, 0, -1, 0);
        down.seed(1, -667);
        Checks.due("at least -2000", down.drive(0, 1), -2000);
        down.seed(1, 667);
        Checks.due("2001 - 1 / 1000", down.drive(0, 1), 2000);
        // The input limit is one of the control law.
        down.set(4, 1);
        down.setPlant(0, 1000, 0, 0);
        Checks.due("drive(-1500, 1)", down.drive(-1500, 1), -1500);
    }

    /** s becomes 1103527590, 377401575 and 662824084; a 65536th of it is 16838, 5758 and 10113. */
    private static void promise20Noise() {
        SelfTuner x = new SelfTuner();
        x.setPlant(0, 0, 0, 5);
        Checks.due("8 - 5", x.drive(0, 1), 3);
        Checks.due("5 - 5", x.drive(0, 1), 0);
        Checks.due("4 - 5", x.drive(0, 1), -1);
        SelfTuner quiet = new SelfTuner();
        quiet.setPlant(0, 0, 0, 0);
        quiet.drive(0, 2);
        quiet.setPlant(0, 0, 0, 5);
        Checks.due("s went on without noise", quiet.drive(0, 1), -1);
        SelfTuner high = new SelfTuner();
        high.setPlant(1000, 0, 0, 5);
        high.seed(1, 1998);
        Checks.due("1998 + 3 is brought to 2000", high.drive(0, 1), 2000);
        SelfTuner low = new SelfTuner();
        low.setPlant(3000, 0, 0, 5);
        low.seed(1, -1999);
        Checks.due("the noise is added before the limit", low.drive(0, 1), -2000);
    }

    private static void promise20Wrong() {
        SelfTuner x = new SelfTuner();
        Checks.dueArgument("drive(2001, 1)", x, () -> x.drive(2001, 1));
        Checks.dueArgument("drive(-2001, 1)", x, () -> x.drive(-2001, 1));
        Checks.dueArgument("drive(0, -1)", x, () -> x.drive(0, -1));
        Checks.dueArgument("drive(0, 501)", x, () -> x.drive(0, 501));
        Checks.dueArgument("drive(0, MAX)", x, () -> x.drive(0, Integer.MAX_VALUE));
    }

    private static void promise21Output() {
        SelfTuner x = new SelfTuner();
        x.seed(1, -123);
        Checks.due("output()", x.output(), -123);
        Checks.dueUnchanged("output()", x, x::output);
        int answer = x.drive(400, 3);
        Checks.due("output() behind drive", x.output(), answer);
        x.sample(1, 2, 3);
        Checks.due("a sample leaves the plant alone", x.output(), answer);
    }

    private static void promise22Bias() {
        SelfTuner x = new SelfTuner();
        x.setPlant(-1, 1, 3000, 0);
        Checks.due("0 + 65.536, rounded down before", x.bias(0), 66);
        Checks.due("65536 - 65", x.bias(1), 65471);
        Checks.due("0 - 3 * ONE", x.bias(2), -196608);
        x.setBox(0, -1000, -1000);
        Checks.due("-1000 + 66", x.bias(0), -934);
        Checks.dueUnchanged("bias(1)", x, () -> x.bias(1));
        Checks.dueIndex("bias(-1)", x, () -> x.bias(-1));
        Checks.dueIndex("bias(3)", x, () -> x.bias(3));
        Checks.dueIndex("bias(MIN)", x, () -> x.bias(Integer.MIN_VALUE));
    }
}
