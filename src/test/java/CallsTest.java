import java.util.function.LongSupplier;

/** "An object is used for at most 512 calls": the last of them answers as the first does. */
public final class CallsTest {
    private static final int CALLS = 512;

    public static void main(String[] args) {
        Checks.run(CallsTest::dearestCalls);
        Checks.run(CallsTest::undoableCalls);
        Checks.run(CallsTest::longestRuns);
        Checks.run(CallsTest::fullTexts);
        Checks.run(CallsTest::queries);
        Checks.end("CallsTest");
    }

    private static void repeated(String what, int callsBefore, long want, LongSupplier call) {
        for (int i = callsBefore + 1; i <= CALLS; i++) {
            Checks.due(what + ", call " + i, call.getAsLong(), want);
        }
    }

    private static void dearestCalls() {
        Checks.sentence("512 calls of the dearest methods");
        SelfTuner x = noisy();
        SelfTuner y = noisy();
        SelfTuner z = noisy();
        long best = noisy().bestDither(300, 50, 100);
        long cost = noisy().costOf(-2000, 500);
        repeated("bestDither(300, 50, 100)", 2, best, () -> x.bestDither(300, 50, 100));
        repeated("costOf(-2000, 500)", 2, cost, () -> y.costOf(-2000, 500));
        repeated("settling(7, 0)", 2, SelfTuner.NONE, () -> z.settling(7, 0));
    }

    /** An object that was called twice. */
    private static SelfTuner noisy() {
        SelfTuner x = new SelfTuner();
        x.setPlant(900, -400, 77, 30);
        x.seed(4711, 321);
        return x;
    }

    private static void undoableCalls() {
        Checks.sentence("512 undoable calls");
        SelfTuner x = new SelfTuner();
        int sets = CALLS - 5;
        for (int i = 0; i < sets; i++) {
            Checks.due("set(1) of call " + i, x.set(1, i % 500), i == 0 ? 2 : (i - 1) % 500);
        }
        for (int i = 3; i >= 0; i--) {
            Checks.due("undo()", x.undo(), i);
        }
        Checks.due("value(1)", x.value(1), (sets - 5) % 500);
        SelfTuner y = new SelfTuner();
        for (int i = 0; i < CALLS / 2 - 1; i++) {
            y.sample(i, -i, i);
            Checks.due("undo() of sample " + i, y.undo(), 0);
        }
        Checks.due("the digest of a new object", y.digest(), new SelfTuner().digest());
    }

    private static void longestRuns() {
        Checks.sentence("512 calls of 500 steps");
        SelfTuner x = new SelfTuner();
        Model m = new Model();
        x.setPlant(1100, -700, 300, 200);
        m.setPlant(1100, -700, 300, 200);
        for (int i = 4; i < CALLS; i++) {
            int r = i * 379 % 4001 - 2000;
            long got = i % 3 == 0 ? x.drive(r, 500) : x.run(r, 500);
            Checks.due("call " + i, got, i % 3 == 0 ? m.drive(r, 500) : m.run(r, 500));
        }
        Checks.due("digest()", x.digest(), m.digest());
        Checks.due("count(0)", x.count(0), 254000);
    }

    private static void fullTexts() {
        Checks.sentence("512 calls that fill, replay and empty the text");
        SelfTuner x = new SelfTuner();
        Model m = new Model();
        int calls = 0;
        while (calls <= CALLS - 123) {
            for (int i = 0; i < 120; i++) {
                char b = "-9,27,500;7,-1,-90;".charAt(i % 19);
                Checks.due("append(" + b + ")", x.append(b), m.append(b));
            }
            Checks.due("replay()", x.replay(), m.replay());
            Checks.due("clearText()", x.clearText(), m.clearText());
            calls += 122;
        }
        repeatedReplay();
    }

    private static void repeatedReplay() {
        SelfTuner x = new SelfTuner();
        Model m = new Model();
        for (int i = 0; i < 20; i++) {
            Checks.write(x, "9,1,7;");
            for (char b : "9,1,7;".toCharArray()) {
                m.append(b);
            }
        }
        for (int i = 120; i < CALLS - 1; i++) {
            Checks.due("replay(), call " + i, x.replay(), m.replay());
        }
        Checks.due("digest()", x.digest(), m.digest());
    }

    private static void queries() {
        Checks.sentence("512 calls that change nothing");
        SelfTuner x = Twins.busy();
        long digest = x.digest();
        long determinant = x.determinant();
        for (int i = 0; i < CALLS / 2 - 20; i++) {
            Checks.due("digest()", x.digest(), digest);
            Checks.due("determinant()", x.determinant(), determinant);
        }
        SelfTuner y = new SelfTuner();
        repeated("value(0)", 0, 64880, () -> y.value(0));
    }
}
