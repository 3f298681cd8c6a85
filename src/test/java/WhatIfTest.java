/** Promises 23 to 25: the cost of closed steps, settling, and the best dither. */
public final class WhatIfTest {
    public static void main(String[] args) {
        Checks.run(WhatIfTest::promise23CostOf);
        Checks.run(WhatIfTest::promise24Settling);
        Checks.run(WhatIfTest::promise25BestDither);
        Checks.end("WhatIfTest");
    }

    /** A plant whose output goes up by 1 with each step, whatever the input. */
    private static SelfTuner climbing() {
        SelfTuner x = new SelfTuner();
        x.setPlant(1000, 0, 1000, 0);
        return x;
    }

    private static void promise23CostOf() {
        SelfTuner x = climbing();
        Checks.due("no steps", x.costOf(70, 0), 0);
        Checks.due("1 + 2 + 3 + 4", x.costOf(0, 4), 10);
        Checks.due("2 + 1 + 0 + 1", x.costOf(3, 4), 4);
        Checks.due("500 steps", x.costOf(0, 500), 125250);
        Checks.due("the greatest distance", x.costOf(-2000, 1), 2001);
        Checks.dueUnchanged("costOf(5, 50)", x, () -> x.costOf(5, 50));
        Checks.due("the output stays", x.output(), 0);
        Checks.due("no samples", x.count(0), 0);
        SelfTuner y = new SelfTuner();
        y.setPlant(900, 300, 0, 50);
        y.set(5, 3);
        long cost = y.costOf(80, 20);
        Checks.due("costOf() once more", y.costOf(80, 20), cost);
        long sum = 0;
        for (int i = 0; i < 20; i++) {
            sum += Math.abs(80 - y.run(80, 1));
        }
        Checks.due("the cost of the steps themselves", cost, sum);
        Checks.dueArgument("costOf(2001, 1)", x, () -> x.costOf(2001, 1));
        Checks.dueArgument("costOf(-2001, 1)", x, () -> x.costOf(-2001, 1));
        Checks.dueArgument("costOf(0, -1)", x, () -> x.costOf(0, -1));
        Checks.dueArgument("costOf(0, 501)", x, () -> x.costOf(0, 501));
    }

    private static void promise24Settling() {
        SelfTuner x = climbing();
        Checks.due("8 to 12, that is behind 12", x.settling(10, 2), 12);
        Checks.due("four steps in a row are too few", x.settling(0, 4), SelfTuner.NONE);
        Checks.due("five are enough", x.settling(0, 5), 5);
        Checks.due("the first output does not count", x.settling(2, 2), SelfTuner.NONE);
        Checks.due("500 steps are enough", x.settling(498, 2), 500);
        Checks.due("and 501 too many", x.settling(499, 2), SelfTuner.NONE);
        Checks.due("no tolerance", x.settling(10, 0), SelfTuner.NONE);
        Checks.due("the greatest tolerance", x.settling(-400, 500), 5);
        Checks.dueUnchanged("settling(10, 2)", x, () -> x.settling(10, 2));
        SelfTuner still = new SelfTuner();
        still.setPlant(0, 0, 1000, 0);
        Checks.due("a difference of the tolerance", still.settling(11, 10), 5);
        Checks.due("and one more", still.settling(11, 9), SelfTuner.NONE);
        Checks.due("below", still.settling(-9, 10), 5);
        Checks.dueArgument("settling(2001, 0)", x, () -> x.settling(2001, 0));
        Checks.dueArgument("settling(-2001, 0)", x, () -> x.settling(-2001, 0));
        Checks.dueArgument("settling(0, -1)", x, () -> x.settling(0, -1));
        Checks.dueArgument("settling(0, 501)", x, () -> x.settling(0, 501));
        interrupted();
    }

    /** The row begins again when it is interrupted: noise makes outputs that leave the tolerance. */
    private static void interrupted() {
        SelfTuner x = new SelfTuner();
        x.setPlant(0, 0, 0, 3);
        SelfTuner y = new SelfTuner();
        y.setPlant(0, 0, 0, 3);
        y.set(1, 500);
        int row = 0;
        int want = SelfTuner.NONE;
        for (int i = 1; i <= 500 && want < 0; i++) {
            row = Math.abs(y.drive(0, 1)) <= 1 ? row + 1 : 0;
            want = row == 5 ? i : want;
        }
        Checks.due("it takes more than five steps", want > 5, true);
        Checks.due("settling(0, 1) with noise", x.settling(0, 1), want);
    }

    private static void promise25BestDither() {
        SelfTuner x = new SelfTuner();
        x.setBox(0, 0, 0);
        x.setBox(1, 65536, 65536);
        x.setBox(2, 0, 0);
        x.setPlant(0, 500, 0, 0);
        // The output is (100 + dither) / 2 for an even number of samples.
        Checks.due("the greatest dither is best", x.bestDither(100, 1, 100), 100);
        Checks.due("of those that are tried", x.bestDither(100, 1, 40), 40);
        Checks.due("98 and 99 cost the same", x.bestDither(100, 1, 99), 98);
        Checks.due("only 0", x.bestDither(100, 1, 0), 0);
        x.set(5, 33);
        Checks.due("the dither that is set does not matter", x.bestDither(100, 1, 100), 100);
        Checks.dueUnchanged("bestDither(100, 5, 50)", x, () -> x.bestDither(100, 5, 50));
        Checks.due("the dither stays", x.value(5), 33);
        x.sample(0, 0, 0);
        Checks.due("for an odd number it is subtracted", x.bestDither(100, 1, 100), 0);
        x.setPlant(0, 0, 0, 0);
        Checks.due("of several the smallest", x.bestDither(100, 50, 100), 0);
        SelfTuner y = new SelfTuner();
        y.setPlant(900, -400, 77, 30);
        y.run(40, 10);
        int best = y.bestDither(60, 12, 60);
        long cost = Long.MAX_VALUE;
        int want = -1;
        for (int i = 0; i <= 60; i++) {
            y.set(5, i);
            long c = y.costOf(60, 12);
            want = c < cost ? i : want;
            cost = Math.min(c, cost);
        }
        Checks.due("bestDither is the best of costOf", best, want);
        Checks.dueArgument("bestDither(2001, 1, 0)", x, () -> x.bestDither(2001, 1, 0));
        Checks.dueArgument("bestDither(-2001, 1, 0)", x, () -> x.bestDither(-2001, 1, 0));
        Checks.dueArgument("bestDither(0, 0, 0)", x, () -> x.bestDither(0, 0, 0));
        Checks.dueArgument("bestDither(0, 51, 0)", x, () -> x.bestDither(0, 51, 0));
        Checks.dueArgument("bestDither(0, 1, -1)", x, () -> x.bestDither(0, 1, -1));
        Checks.dueArgument("bestDither(0, 1, 101)", x, () -> x.bestDither(0, 1, 101));
    }
}
