import java.math.BigInteger;
import java.util.function.Supplier;
import java.util.function.ToLongFunction;

/** The sentences on undo and digest that name a bound: no saved state, four of them, and the fifth. */
public final class UndoEdgesTest {
    private static final int END = 20 * 65536;

    public static void main(String[] args) {
        Checks.run(UndoEdgesTest::atMostFour);
        Checks.run(UndoEdgesTest::oldestDroppedFirst);
        Checks.run(UndoEdgesTest::fourStatesOfLongRuns);
        Checks.run(UndoEdgesTest::remaining);
        Checks.run(UndoEdgesTest::mostRecent);
        Checks.run(UndoEdgesTest::noSavedState);
        Checks.run(UndoEdgesTest::undoableMethods);
        Checks.run(UndoEdgesTest::evenIfNothingChanges);
        Checks.run(UndoEdgesTest::otherMethodsSaveNothing);
        Checks.run(UndoEdgesTest::textMethodsSaveNothing);
        Checks.run(UndoEdgesTest::everythingExceptTheText);
        Checks.run(UndoEdgesTest::undoIsNotUndoable);
        Checks.run(UndoEdgesTest::refusedCallsSaveNothing);
        Checks.run(UndoEdgesTest::digestEnds);
        Checks.run(UndoEdgesTest::digestOfSavedStates);
        Checks.end("UndoEdgesTest");
    }

    private static void atMostFour() {
        Checks.sentence("at most 4 states are saved");
        for (int calls = 0; calls <= 9; calls++) {
            SelfTuner x = new SelfTuner();
            for (int i = 0; i < calls; i++) {
                x.set(1, 100 + i);
            }
            int saved = Math.min(calls, 4);
            for (int i = saved - 1; i >= 0; i--) {
                Checks.due("undo() behind " + calls + " calls", x.undo(), i);
            }
            Checks.dueState("one undo() more behind " + calls + " calls", x, x::undo);
        }
    }

    private static void oldestDroppedFirst() {
        Checks.sentence("the oldest is dropped first");
        for (int calls = 1; calls <= 9; calls++) {
            SelfTuner x = new SelfTuner();
            for (int i = 1; i <= calls; i++) {
                x.set(1, 100 + i);
            }
            for (int i = calls - 1; i >= Math.max(0, calls - 4); i--) {
                x.undo();
                Checks.due("value(1) of " + calls + " calls", x.value(1), i == 0 ? 2 : 100 + i);
            }
        }
    }

    /** The states are whole ones, also behind many that were dropped and restored. */
    private static void fourStatesOfLongRuns() {
        Checks.sentence("at most 4 states are saved, and the oldest is dropped first: all that they contain");
        SelfTuner x = Twins.busy();
        String[] states = new String[14];
        for (int i = 0; i < 14; i++) {
            states[i] = withoutDigest(x);
            changeAll(x, i);
            if (i % 7 == 6) {
                x.undo();
                Checks.due("state " + i + " behind one undo()", withoutDigest(x).equals(states[i]), true);
                changeAll(x, i);
            }
        }
        for (int i = 13; i >= 10; i--) {
            x.undo();
            Checks.due("state " + i, withoutDigest(x).equals(states[i]), true);
        }
        Checks.dueState("undo() of a fifth", x, x::undo);
    }

    /** The digest tells the number of saved states, which differs. */
    private static String withoutDigest(SelfTuner x) {
        StringBuilder t = new StringBuilder();
        for (int i = 0; i < 9; i++) {
            t.append(x.covariance(i / 3, i % 3)).append(' ').append(x.count(i % 5)).append(' ');
        }
        return t.append(x.value(1)).append(' ').append(x.output()).append(' ').append(x.costOf(9, 9)).toString();
    }

    private static void changeAll(SelfTuner x, int i) {
        switch (i % 4) {
            case 0: x.run(100 + i, 5 + i); break;
            case 1: x.drive(-i, 7); break;
            case 2: x.set(1, i); break;
            default: x.sample(i, -i, 1000); break;
        }
    }

    private static void remaining() {
        Checks.sentence("undo returns the number of saved states that remain");
        SelfTuner x = Twins.busy();
        for (int want = 3; want >= 0; want--) {
            Checks.due("undo()", x.undo(), want);
        }
        x.set(1, 5);
        Checks.due("undo() of one", x.undo(), 0);
        x.set(1, 5);
        x.set(1, 6);
        Checks.due("undo() of two", x.undo(), 1);
        x.set(1, 7);
        x.set(1, 8);
        x.set(1, 9);
        Checks.due("undo() of four", x.undo(), 3);
    }

    private static void mostRecent() {
        Checks.sentence("undo restores the most recently saved state and removes it");
        SelfTuner x = new SelfTuner();
        x.set(1, 10);
        x.set(1, 11);
        x.undo();
        Checks.due("value(1) behind one undo()", x.value(1), 10);
        x.set(1, 12);
        x.undo();
        Checks.due("value(1) behind set() and undo()", x.value(1), 10);
        x.undo();
        Checks.due("value(1) behind the last undo()", x.value(1), 2);
    }

    private static void noSavedState() {
        Checks.sentence("undo throws IllegalStateException if there is no saved state");
        SelfTuner x = new SelfTuner();
        Checks.dueState("undo()", x, x::undo);
        x.append(49);
        x.clearText();
        x.costOf(5, 5);
        Checks.dueState("undo() behind calls that save nothing", x, x::undo);
        x.restart();
        Checks.due("undo() behind restart()", x.undo(), 0);
        Checks.dueState("undo() again", x, x::undo);
        Checks.dueState("and again", x, x::undo);
    }

    private static SelfTuner three() {
        SelfTuner x = Twins.busy();
        x.undo();
        return x;
    }

    private static void undoable(String what, ToLongFunction<SelfTuner> call) {
        for (int old = 0; old < 2; old++) {
            Supplier<SelfTuner> maker = old == 0 ? SelfTuner::new : UndoEdgesTest::three;
            Twins.dueSame(what + " and undo()", () -> {
                SelfTuner x = maker.get();
                call.applyAsLong(x);
                x.undo();
                return x;
            }, maker);
            SelfTuner x = maker.get();
            call.applyAsLong(x);
            Checks.due(what + " saves one state: undo()", x.undo(), old == 0 ? 0 : 3);
        }
        SelfTuner full = Twins.busy();
        String before = withoutDigest(full);
        call.applyAsLong(full);
        Checks.due(what + " behind four saved states: undo()", full.undo(), 3);
        Checks.due("undo() of it restores", withoutDigest(full).equals(before), true);
    }

    private static void undoableMethods() {
        Checks.sentence("Each successful call of a method whose description says \"undoable\" saves the state");
        for (int i = 0; i < 7; i++) {
            int what = i;
            undoable("set(" + i + ")", x -> x.set(what, Model.RANGES[what][0]));
            undoable("set(" + i + ")", x -> x.set(what, Model.RANGES[what][1]));
        }
        for (int i = 0; i < 3; i++) {
            int parameter = i;
            undoable("setBox(" + i + ", END, END)", x -> x.setBox(parameter, END, END));
            undoable("setBox(" + i + ", -END, -END)", x -> x.setBox(parameter, -END, -END));
        }
        undoable("setPlant", x -> x.setPlant(-3000, 3000, -3000, 200));
        undoable("seed", x -> x.seed(999999, -2000));
        undoable("sample", x -> x.sample(2000, -2000, 4000));
        undoable("an ignored sample", x -> x.sample(3, 4, (int) x.predict(3, 4)));
        undoable("restart", SelfTuner::restart);
        undoable("run", x -> x.run(-2000, 500));
        undoable("drive", x -> x.drive(2000, 500));
        undoable("replay", SelfTuner::replay);
    }

    private static void evenIfNothingChanges() {
        Checks.sentence("... even if the call changes nothing");
        undoable("set to what it is", x -> x.set(3, x.value(3)));
        undoable("setBox to what it is", x -> x.setBox(1, x.box(1, false), x.box(1, true)));
        undoable("setPlant to what it is", x -> x.setPlant(900, -400, 77, 30));
        undoable("seed with the same output", x -> x.seed(1, x.output()));
        undoable("run of no steps", x -> x.run(5, 0));
        undoable("drive of no steps", x -> x.drive(5, 0));
        SelfTuner x = new SelfTuner();
        x.set(1, 2);
        x.setBox(0, -END, END);
        x.setPlant(800, 500, 0, 0);
        x.seed(1, 0);
        Checks.due("four calls that change nothing", x.undo(), 3);
        x.restart();
        x.run(2000, 0);
        x.drive(2000, 0);
        x.replay();
        Checks.due("four others", x.undo(), 3);
    }

    private static void saveNothing(String what, ToLongFunction<SelfTuner> call) {
        Twins.dueNoTrace(what, SelfTuner::new, call);
        Twins.dueNoTrace(what, UndoEdgesTest::three, call);
        Twins.dueNoTrace(what, Twins::busy, call);
    }

    private static void otherMethodsSaveNothing() {
        Checks.sentence("calls of methods that are not undoable save nothing and change nothing");
        saveNothing("value", x -> x.value(3));
        saveNothing("box", x -> x.box(1, true));
        saveNothing("parameter", x -> x.parameter(1));
        saveNothing("covariance", x -> x.covariance(1, 2));
        saveNothing("count", x -> x.count(0));
        saveNothing("predict", x -> x.predict(1000, -1000));
        saveNothing("uncertainty", x -> (long) x.uncertainty(1000, -1000));
        saveNothing("inWindow", SelfTuner::inWindow);
        saveNothing("determinant", SelfTuner::determinant);
        saveNothing("exciting", x -> x.exciting() ? 1 : 0);
        saveNothing("control", x -> x.control(1000, -1000));
        saveNothing("output", SelfTuner::output);
        saveNothing("bias", x -> x.bias(2));
        saveNothing("costOf", x -> x.costOf(100, 200));
        saveNothing("settling", x -> x.settling(100, 5));
        saveNothing("bestDither", x -> x.bestDither(100, 20, 30));
        saveNothing("digest", SelfTuner::digest);
    }

    private static void textMethodsSaveNothing() {
        Checks.sentence("append and clearText are not undoable");
        SelfTuner x = new SelfTuner();
        x.append(49);
        Checks.dueState("undo() behind append()", x, x::undo);
        x.clearText();
        Checks.dueState("undo() behind clearText()", x, x::undo);
        SelfTuner y = Twins.full();
        y.clearText();
        Checks.due("undo() behind clearText()", y.undo(), 3);
        y.append(49);
        Checks.due("undo() behind append()", y.undo(), 2);
    }

    private static void everythingExceptTheText() {
        Checks.sentence("The saved state contains everything except the sample text");
        SelfTuner x = Twins.busy();
        x.undo();
        String before = Twins.now(x);
        long digest = x.digest();
        x.run(500, 50);
        x.clearText();
        Checks.write(x, "1,2,3;");
        x.undo();
        Checks.due("clearText() behind undo()", x.clearText(), 6);
        Checks.write(x, "12,34,56;-7,-8,-999;");
        Checks.due("the rest", Twins.now(x).equals(before), true);
        Checks.due("digest()", x.digest(), digest);
    }

    private static void undoIsNotUndoable() {
        Checks.sentence("undo is not undoable itself");
        SelfTuner x = new SelfTuner();
        x.set(1, 10);
        x.set(1, 11);
        x.undo();
        x.undo();
        Checks.due("value(1)", x.value(1), 2);
        Checks.dueState("undo()", x, x::undo);
    }

    private static void refusedCallsSaveNothing() {
        Checks.sentence("Each successful call ... saves: a call that throws does not");
        SelfTuner x = new SelfTuner();
        Checks.dueArgument("set(0, 49999)", x, () -> x.set(0, 49999));
        Checks.dueIndex("setBox(3, 0, 0)", x, () -> x.setBox(3, 0, 0));
        Checks.dueArgument("setBox(0, 1, 0)", x, () -> x.setBox(0, 1, 0));
        Checks.dueArgument("setPlant(0, 0, 0, 201)", x, () -> x.setPlant(0, 0, 0, 201));
        Checks.dueArgument("seed(1000000, 0)", x, () -> x.seed(1000000, 0));
        Checks.dueArgument("sample(0, 0, 4001)", x, () -> x.sample(0, 0, 4001));
        Checks.dueArgument("run(0, 501)", x, () -> x.run(0, 501));
        Checks.dueArgument("drive(0, -1)", x, () -> x.drive(0, -1));
        Checks.dueState("undo()", x, x::undo);
    }

    private static long hash(long... values) {
        BigInteger h = BigInteger.valueOf(2971);
        for (long v : values) {
            h = h.multiply(BigInteger.valueOf(31)).add(BigInteger.valueOf(v));
        }
        return h.longValue();
    }

    private static void digestEnds() {
        Checks.sentence("digest: the hash, with the overflow of long arithmetic ignored");
        SelfTuner x = Twins.full();
        x.setBox(0, END, END);
        x.setBox(1, -END, -END);
        x.setPlant(-3000, 3000, -3000, 200);
        x.seed(999999, -2000);
        Checks.due("digest()", x.digest(), hash(120, 60000, 3, 5, 5, 700, 9, 500, END, END, END, -END, -END, -END,
                -90000, 50000, x.parameter(2), x.covariance(0, 0), x.covariance(0, 1), x.covariance(0, 2),
                x.covariance(1, 0), x.covariance(1, 1), x.covariance(1, 2), x.covariance(2, 0),
                x.covariance(2, 1), x.covariance(2, 2), x.count(0), x.count(1), x.count(2), x.count(3), x.count(4),
                -3000, 3000, -3000, 200, 999999, -2000, 5, x.determinant(), 4));
    }

    private static void digestOfSavedStates() {
        Checks.sentence("digest: ... the number of saved states, 0 to 4");
        SelfTuner x = new SelfTuner();
        long first = x.digest();
        for (int i = 1; i <= 6; i++) {
            x.set(1, 2);
            Checks.due("behind " + i + " calls", x.digest() - first, Math.min(i, 4));
        }
        for (int i = 3; i >= 0; i--) {
            x.undo();
            Checks.due("with " + i + " saved states", x.digest() - first, i);
        }
    }
}
