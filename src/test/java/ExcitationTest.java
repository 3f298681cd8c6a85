/** Promises 15 to 17: the window, its determinant, and whether it is exciting. */
public final class ExcitationTest {
    public static void main(String[] args) {
        Checks.run(ExcitationTest::promise15InWindow);
        Checks.run(ExcitationTest::promise16Determinant);
        Checks.run(ExcitationTest::promise17Exciting);
        Checks.end("ExcitationTest");
    }

    private static void promise15InWindow() {
        SelfTuner x = new SelfTuner();
        for (int i = 1; i <= 10; i++) {
            x.sample(i, 0, i * 100);
            Checks.due("inWindow() behind " + i + " samples", x.inWindow(), Math.min(i, 8));
        }
        x.set(3, 20);
        Checks.due("a longer window reaches back", x.inWindow(), 10);
        x.set(3, 2);
        Checks.due("a shorter one", x.inWindow(), 2);
        x.set(3, 20);
        x.drive(1, 30);
        Checks.due("the longest", x.inWindow(), 20);
        Checks.dueUnchanged("inWindow()", x, x::inWindow);
    }

    private static void promise16Determinant() {
        SelfTuner x = new SelfTuner();
        x.set(3, 2);
        x.sample(1, 2, 0);
        Checks.due("one sample has none", x.determinant(), 0);
        x.sample(3, -5, 0);
        Checks.due("10 * 29 - 13 * 13", x.determinant(), 121);
        x.sample(4, 1, 0);
        Checks.due("the oldest goes: 25 * 26 - 11 * 11", x.determinant(), 529);
        x.set(3, 3);
        Checks.due("it comes back: 26 * 30 - 9 * 9", x.determinant(), 699);
        Checks.dueUnchanged("determinant()", x, x::determinant);
        SelfTuner big = new SelfTuner();
        big.set(3, 20);
        for (int i = 0; i < 25; i++) {
            big.sample(2000, i % 2 == 0 ? 2000 : -2000, 0);
        }
        Checks.due("the greatest", big.determinant(), 80000000L * 80000000L);
        for (int i = 0; i < 19; i++) {
            big.sample(0, 0, 0);
        }
        Checks.due("the twentieth sample back is the last one", big.determinant(), 0);
        big.set(3, 19);
        big.set(3, 20);
        big.sample(0, 0, 0);
        Checks.due("nothing of it is left", big.determinant(), 0);
    }

    private static void promise17Exciting() {
        SelfTuner x = new SelfTuner();
        x.set(3, 2);
        x.sample(2000, 0, 0);
        Checks.due("not full", x.exciting(), false);
        x.sample(0, 2000, 0);
        Checks.due("full", x.exciting(), true);
        x.set(3, 3);
        Checks.due("no more full", x.exciting(), false);
        // 63 * 63 is below 1000 * 2 * 2, and 64 * 64 above.
        dueExciting(1, 63, 100, false);
        dueExciting(1, 64, 100, true);
        dueExciting(21, 3, 0, false);
        dueExciting(16, 4, 0, true);
        SelfTuner three = new SelfTuner();
        three.set(3, 3);
        three.sample(1, 0, 0);
        three.sample(0, 1, 0);
        three.sample(92, 23, 0);
        Checks.due("8465 * 530 - 2116 * 2116", three.determinant(), 8994);
        Checks.due("is below 1000 * 3 * 3", three.exciting(), false);
        SelfTuner edge = new SelfTuner();
        edge.set(3, 10);
        for (int i = 0; i < 10; i++) {
            edge.sample(i < 8 ? 5 : 0, i < 8 ? 0 : i == 8 ? 15 : 5, 0);
        }
        Checks.due("a determinant of 50000", edge.determinant(), 50000);
        Checks.due("is below 1000 * 10 * 10", edge.exciting(), false);
        for (int i = 0; i < 10; i++) {
            edge.sample(i < 8 ? 5 : 0, i < 8 ? 0 : i == 8 ? 20 : 10, 0);
        }
        Checks.due("a determinant of 100000", edge.determinant(), 100000);
        Checks.due("is enough", edge.exciting(), true);
        edge.set(3, 11);
        edge.sample(5, 0, 0);
        Checks.due("112500 of eleven", edge.determinant(), 225L * 500);
        Checks.due("is below 121000", edge.exciting(), false);
        Checks.dueUnchanged("exciting()", edge, () -> edge.exciting() ? 1 : 0);
    }

    /** Two samples with the regressors (a, 0) and (c, b): the determinant is a * a * b * b. */
    private static void dueExciting(int a, int b, int c, boolean want) {
        SelfTuner x = new SelfTuner();
        x.set(3, 2);
        x.sample(a, 0, 0);
        x.sample(c, b, 0);
        Checks.due("determinant of " + a + ", " + b, x.determinant(), (long) a * a * b * b);
        Checks.due("exciting() of " + a + ", " + b, x.exciting(), want);
    }
}
