/** Promises 1 to 5: a new object, settings and boxes. */
public final class SettingsTest {
    private static final int[] FIRST = {64880, 2, 1, 8, 500, 0, 3277};
    private static final int END = 20 * 65536;

    public static void main(String[] args) {
        Checks.run(SettingsTest::promise1NewObject);
        Checks.run(SettingsTest::promise2Set);
        Checks.run(SettingsTest::promise2Wrong);
        Checks.run(SettingsTest::promise3Value);
        Checks.run(SettingsTest::promise4SetBox);
        Checks.run(SettingsTest::promise4Wrong);
        Checks.run(SettingsTest::promise5Box);
        Checks.end("SettingsTest");
    }

    private static void promise1NewObject() {
        SelfTuner x = new SelfTuner();
        for (int i = 0; i < 7; i++) {
            Checks.due("first value(" + i + ")", x.value(i), FIRST[i]);
        }
        for (int i = 0; i < 3; i++) {
            Checks.due("first parameter(" + i + ")", x.parameter(i), i == 1 ? 65536 : 0);
            Checks.due("first low end " + i, x.box(i, false), -END);
            Checks.due("first high end " + i, x.box(i, true), END);
            for (int j = 0; j < 3; j++) {
                Checks.due("first covariance(" + i + ", " + j + ")", x.covariance(i, j), i == j ? 6553600 : 0);
            }
        }
        for (int i = 0; i < 5; i++) {
            Checks.due("first count(" + i + ")", x.count(i), 0);
        }
        Checks.due("first bias(0)", x.bias(0), -52428);
        Checks.due("first bias(1)", x.bias(1), 32768);
        Checks.due("first bias(2)", x.bias(2), 0);
        Checks.due("first output()", x.output(), 0);
        Checks.due("first inWindow()", x.inWindow(), 0);
        Checks.due("first determinant()", x.determinant(), 0);
        Checks.due("first exciting()", x.exciting(), false);
        Checks.due("first clearText()", x.clearText(), 0);
        Checks.dueState("undo() of a new object", x, x::undo);
        SelfTuner other = new SelfTuner();
        other.run(50, 20);
        Checks.due("one object leaves another alone", x.count(0), 0);
    }

    private static void promise2Set() {
        for (int i = 0; i < 7; i++) {
            SelfTuner x = new SelfTuner();
            int what = i;
            int least = Model.RANGES[i][0];
            int most = Model.RANGES[i][1];
            Checks.due("set(" + i + ") to the least", x.set(i, least), FIRST[i]);
            Checks.due("value(" + i + ")", x.value(i), least);
            Checks.due("set(" + i + ") to the most", x.set(i, most), least);
            Checks.due("value(" + i + ")", x.value(i), most);
            Checks.dueUndoable("set(" + i + ")", x, () -> x.set(what, least));
            Checks.dueUndoable("set(" + i + ") to the same", x, () -> x.set(what, most));
            Checks.dueArgument("set(" + i + ", " + (least - 1) + ")", x, () -> x.set(what, least - 1));
            Checks.dueArgument("set(" + i + ", " + (most + 1) + ")", x, () -> x.set(what, most + 1));
            for (int j = 0; j < 7; j++) {
                Checks.due("value(" + j + ") behind set(" + i + ")", x.value(j), j == i ? most : FIRST[j]);
            }
        }
    }

    private static void promise2Wrong() {
        SelfTuner x = new SelfTuner();
        Checks.dueArgument("set(-1, 1)", x, () -> x.set(-1, 1));
        Checks.dueArgument("set(7, 1)", x, () -> x.set(7, 1));
        Checks.dueArgument("set(MIN, 1)", x, () -> x.set(Integer.MIN_VALUE, 1));
        Checks.dueArgument("set(MAX, MAX)", x, () -> x.set(Integer.MAX_VALUE, Integer.MAX_VALUE));
        Checks.dueArgument("set(1, MIN)", x, () -> x.set(1, Integer.MIN_VALUE));
        Checks.dueState("undo() behind failing calls", x, x::undo);
    }

    private static void promise3Value() {
        SelfTuner x = new SelfTuner();
        x.set(6, 1000);
        Checks.dueUnchanged("value(6)", x, () -> x.value(6));
        Checks.due("value(6)", x.value(6), 1000);
        Checks.dueArgument("value(-1)", x, () -> x.value(-1));
        Checks.dueArgument("value(7)", x, () -> x.value(7));
        Checks.dueArgument("value(MIN)", x, () -> x.value(Integer.MIN_VALUE));
    }

    private static void promise4SetBox() {
        SelfTuner x = new SelfTuner();
        Checks.due("setBox round the parameter", x.setBox(1, 65536, 65536), 0);
        Checks.due("parameter(1)", x.parameter(1), 65536);
        Checks.due("setBox above it", x.setBox(1, 65537, END), 1);
        Checks.due("parameter at the low end", x.parameter(1), 65537);
        Checks.due("setBox below it", x.setBox(1, -END, -5), 1);
        Checks.due("parameter at the high end", x.parameter(1), -5);
        Checks.due("setBox of the others: 0", x.setBox(0, -END, END), 0);
        Checks.due("setBox of the others: 2", x.setBox(2, END, END), 1);
        Checks.due("parameter(2)", x.parameter(2), END);
        Checks.due("parameter(0)", x.parameter(0), 0);
        Checks.due("setBox counts no sample", x.count(3), 0);
        Checks.dueUndoable("setBox(1, 7, 8)", x, () -> x.setBox(1, 7, 8));
        Checks.dueUndoable("setBox(1, -END, -5)", x, () -> x.setBox(1, -END, -5));
    }

    private static void promise4Wrong() {
        SelfTuner x = new SelfTuner();
        Checks.dueIndex("setBox(-1, 0, 1)", x, () -> x.setBox(-1, 0, 1));
        Checks.dueIndex("setBox(3, 0, 1)", x, () -> x.setBox(3, 0, 1));
        Checks.dueIndex("setBox(3, 1, 0)", x, () -> x.setBox(3, 1, 0));
        Checks.dueIndex("setBox(MIN, MIN, MAX)", x,
                () -> x.setBox(Integer.MIN_VALUE, Integer.MIN_VALUE, Integer.MAX_VALUE));
        Checks.dueArgument("setBox, low above high", x, () -> x.setBox(0, 1, 0));
        Checks.dueArgument("setBox, low too low", x, () -> x.setBox(0, -END - 1, 0));
        Checks.dueArgument("setBox, high too high", x, () -> x.setBox(2, 0, END + 1));
        Checks.dueArgument("setBox, both too high", x, () -> x.setBox(2, END + 1, END + 1));
        Checks.dueArgument("setBox, both too low", x, () -> x.setBox(2, -END - 1, -END - 1));
        Checks.dueState("undo() behind failing calls", x, x::undo);
    }

    private static void promise5Box() {
        SelfTuner x = new SelfTuner();
        x.setBox(0, -11, 12);
        x.setBox(2, -21, 22);
        Checks.due("box(0, false)", x.box(0, false), -11);
        Checks.due("box(0, true)", x.box(0, true), 12);
        Checks.due("box(1, true)", x.box(1, true), END);
        Checks.due("box(2, false)", x.box(2, false), -21);
        Checks.due("box(2, true)", x.box(2, true), 22);
        Checks.dueUnchanged("box(2, true)", x, () -> x.box(2, true));
        Checks.dueIndex("box(-1, true)", x, () -> x.box(-1, true));
        Checks.dueIndex("box(3, false)", x, () -> x.box(3, false));
        Checks.dueIndex("box(MAX, true)", x, () -> x.box(Integer.MAX_VALUE, true));
    }
}
