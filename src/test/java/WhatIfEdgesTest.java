/** The sentences on what-if runs that name a bound: no steps, all steps, just settled, and equal costs. */
public final class WhatIfEdgesTest {
    private static final int ONE = 65536;

    public static void main(String[] args) {
        Checks.run(WhatIfEdgesTest::costOfNoSteps);
        Checks.run(WhatIfEdgesTest::costOfOneStep);
        Checks.run(WhatIfEdgesTest::costOfAllSteps);
        Checks.run(WhatIfEdgesTest::greatestCost);
        Checks.run(WhatIfEdgesTest::costOfChangesNothing);
        Checks.run(WhatIfEdgesTest::costOfSumsSteps);
        Checks.run(WhatIfEdgesTest::settlingWithinTheTolerance);
        Checks.run(WhatIfEdgesTest::settlingAtTheTolerance);
        Checks.run(WhatIfEdgesTest::settlingFiveInARow);
        Checks.run(WhatIfEdgesTest::settlingFiveIncluded);
        Checks.run(WhatIfEdgesTest::settlingOutputBefore);
        Checks.run(WhatIfEdgesTest::settlingLastStep);
        Checks.run(WhatIfEdgesTest::settlingNone);
        Checks.run(WhatIfEdgesTest::settlingChangesNothing);
        Checks.run(WhatIfEdgesTest::bestDitherOfNone);
        Checks.run(WhatIfEdgesTest::bestDitherGreatest);
        Checks.run(WhatIfEdgesTest::bestDitherSmallestOfSeveral);
        Checks.run(WhatIfEdgesTest::bestDitherSteps);
        Checks.run(WhatIfEdgesTest::bestDitherWhateverIsSet);
        Checks.run(WhatIfEdgesTest::bestDitherChangesNothing);
        Checks.end("WhatIfEdgesTest");
    }

    /** The output is the same behind each step, whatever the input. */
    private static SelfTuner still(int output) {
        SelfTuner x = new SelfTuner();
        x.setPlant(1000, 0, 0, 0);
        x.seed(1, output);
        return x;
    }

    /** The output increases by 1 with each step, whatever the input. */
    private static SelfTuner climbing(int output) {
        SelfTuner x = new SelfTuner();
        x.setPlant(1000, 0, 1000, 0);
        x.seed(1, output);
        return x;
    }

    private static void costOfNoSteps() {
        Checks.sentence("costOf, steps: 0");
        Checks.due("costOf(2000, 0)", Twins.busy().costOf(2000, 0), 0);
        Checks.due("costOf(-2000, 0)", new SelfTuner().costOf(-2000, 0), 0);
    }

    private static void costOfOneStep() {
        Checks.sentence("costOf: the differences of r and the output after each step");
        Checks.due("|7 - 1|", climbing(0).costOf(7, 1), 6);
        Checks.due("|7 - 7|", climbing(6).costOf(7, 1), 0);
        Checks.due("|7 - 8|, absolute", climbing(7).costOf(7, 1), 1);
        Checks.due("|-1| + 0 + 1", climbing(-2).costOf(0, 3), 2);
    }

    private static void costOfAllSteps() {
        Checks.sentence("costOf, steps: 500");
        Checks.due("1 + .. + 500", climbing(0).costOf(0, 500), 125250);
        Checks.due("1 + .. + 499", climbing(0).costOf(0, 499), 124750);
    }

    private static void greatestCost() {
        Checks.sentence("costOf returns the sum: the greatest there is");
        Checks.due("500 * 4000", still(-2000).costOf(2000, 500), 2000000);
        Checks.due("500 * 4000, the other way", still(2000).costOf(-2000, 500), 2000000);
    }

    private static void costOfChangesNothing() {
        Checks.sentence("costOf: The state does not change");
        Twins.dueNoTrace("costOf(77, 500)", Twins::busy, x -> x.costOf(77, 500));
        Twins.dueNoTrace("costOf(77, 500)", SelfTuner::new, x -> x.costOf(77, 500));
    }

    private static void costOfSumsSteps() {
        Checks.sentence("costOf: of closed steps, one behind the other");
        SelfTuner x = Twins.busy();
        long cost = x.costOf(-60, 30);
        long sum = 0;
        for (int i = 0; i < 30; i++) {
            sum += Math.abs(-60 - x.run(-60, 1));
        }
        Checks.due("costOf(-60, 30)", cost, sum);
    }

    private static void settlingWithinTheTolerance() {
        Checks.sentence("settling: differed from r by at most a tolerance, 0");
        Checks.due("no difference", still(30).settling(30, 0), 5);
        Checks.due("a difference of 1", still(30).settling(29, 0), SelfTuner.NONE);
        Checks.due("a difference of -1", still(30).settling(31, 0), SelfTuner.NONE);
    }

    private static void settlingAtTheTolerance() {
        Checks.sentence("settling: differed from r by at most a tolerance, 1 to 500");
        for (int t : new int[] {1, 2, 499, 500}) {
            Checks.due("the output " + t + " above", still(1000).settling(1000 - t, t), 5);
            Checks.due("the output " + t + " below", still(1000).settling(1000 + t, t), 5);
            Checks.due("more than " + t + " above", still(1000).settling(999 - t, t), SelfTuner.NONE);
            Checks.due("more than " + t + " below", still(1000).settling(1001 + t, t), SelfTuner.NONE);
        }
    }

    private static void settlingFiveInARow() {
        Checks.sentence("settling: for 5 steps in a row");
        // The outputs 1, 2, 3, .. are within the tolerance for so many steps.
        Checks.due("four: 1 to 4", climbing(0).settling(2, 2), SelfTuner.NONE);
        Checks.due("five: 1 to 5", climbing(0).settling(3, 2), 5);
        Checks.due("three: 8 to 10", climbing(0).settling(9, 1), SelfTuner.NONE);
        Checks.due("five: 8 to 12", climbing(0).settling(10, 2), 12);
        Checks.due("seven: 7 to 13", climbing(0).settling(10, 3), 11);
        // n is -1, 0 or 1: the row begins anew when a 1 interrupts it.
        SelfTuner x = new SelfTuner();
        x.setPlant(0, 0, 0, 1);
        int row = 0;
        int want = SelfTuner.NONE;
        for (int i = 1; i <= 400 && want < 0; i++) {
            row = x.drive(0, 1) <= 0 ? row + 1 : 0;
            want = row == 5 ? i : want;
        }
        SelfTuner y = new SelfTuner();
        y.setPlant(0, 0, -1000, 1);
        Checks.due("more than ten steps", want > 10, true);
        Checks.due("interrupted by steps with n = 1", y.settling(-2, 1), want);
    }

    private static void settlingFiveIncluded() {
        Checks.sentence("settling returns the number of steps, the 5 steps included");
        Checks.due("at once", climbing(-3).settling(0, 2), 5);
        Checks.due("a step later", climbing(-4).settling(0, 2), 6);
        Checks.due("all within the tolerance", still(0).settling(0, 500), 5);
    }

    private static void settlingOutputBefore() {
        Checks.sentence("settling: the output before the first step does not count");
        Checks.due("0 to 4, of which 0 is before", climbing(0).settling(2, 2), SelfTuner.NONE);
        Checks.due("1 to 5", climbing(1).settling(4, 2), 5);
    }

    private static void settlingLastStep() {
        Checks.sentence("settling: NONE if 500 steps were not enough: behind step 500 it is settled");
        Checks.due("496 to 500", climbing(0).settling(498, 2), 500);
        Checks.due("495 to 499", climbing(0).settling(497, 2), 499);
        Checks.due("497 to 501", climbing(0).settling(499, 2), SelfTuner.NONE);
    }

    private static void settlingNone() {
        Checks.sentence("NONE = -1: There is no such thing");
        Checks.due("NONE", SelfTuner.NONE, -1);
        Checks.due("never settled", still(-2000).settling(2000, 500), -1);
    }

    private static void settlingChangesNothing() {
        Checks.sentence("settling: The state does not change");
        Twins.dueNoTrace("settling(77, 0)", Twins::busy, x -> x.settling(77, 0));
        Twins.dueNoTrace("settling(77, 500)", SelfTuner::new, x -> x.settling(77, 500));
    }

    /** The first input is r plus the dither, and the output behind it the q-th part. */
    private static SelfTuner proportional(int q) {
        SelfTuner x = new SelfTuner();
        x.setBox(0, 0, 0);
        x.setBox(1, ONE, ONE);
        x.setBox(2, 0, 0);
        x.setPlant(0, q, 0, 0);
        return x;
    }

    private static void bestDitherOfNone() {
        Checks.sentence("bestDither, most: 0");
        Checks.due("only 0 is tried", proportional(500).bestDither(100, 1, 0), 0);
        Checks.due("1 is tried, too", proportional(100).bestDither(109, 1, 1), 1);
    }

    private static void bestDitherGreatest() {
        Checks.sentence("bestDither, most: 100, the greatest dither that is tried");
        Checks.due("100 is tried", proportional(500).bestDither(100, 1, 100), 100);
        Checks.due("99 is the greatest, but 98 costs as much", proportional(500).bestDither(100, 1, 99), 98);
        Checks.due("98 is the greatest", proportional(500).bestDither(100, 1, 98), 98);
        Checks.due("no more than needed", proportional(900).bestDither(90, 1, 100), 10);
    }

    private static void bestDitherSmallestOfSeveral() {
        Checks.sentence("bestDither: of several the smallest one");
        Checks.due("all cost the same", proportional(0).bestDither(100, 1, 100), 0);
        Checks.due("r = 10: 10 + 50 comes nearest", proportional(100).bestDither(10, 1, 50), 50);
        Checks.due("r = 4: 4 + 36 to 4 + 45", proportional(100).bestDither(4, 1, 50), 36);
        // r = 100, the outputs 200, 204, .. for the dither 0, 2, ..: 0 costs least.
        Checks.due("0 costs least", proportional(2000).bestDither(100, 1, 100), 0);
    }

    private static void bestDitherSteps() {
        Checks.sentence("bestDither, steps: 1 to 50");
        for (int steps : new int[] {1, 2, 49, 50}) {
            SelfTuner x = Twins.busy();
            long least = Long.MAX_VALUE;
            int want = -1;
            for (int dither = 0; dither <= 100; dither++) {
                x.set(5, dither);
                long cost = x.costOf(150, steps);
                want = cost < least ? dither : want;
                least = Math.min(cost, least);
                x.undo();
            }
            Checks.due("bestDither(150, " + steps + ", 100)", x.bestDither(150, steps, 100), want);
        }
    }

    private static void bestDitherWhateverIsSet() {
        Checks.sentence("bestDither finds a dither, whatever dither is set");
        for (int dither : new int[] {0, 1, 37, 100}) {
            SelfTuner x = proportional(500);
            x.set(5, dither);
            Checks.due("bestDither(100, 1, 50)", x.bestDither(100, 1, 50), 50);
            Checks.due("value(5) stays", x.value(5), dither);
        }
    }

    private static void bestDitherChangesNothing() {
        Checks.sentence("bestDither: The state does not change");
        Twins.dueNoTrace("bestDither(77, 50, 100)", Twins::busy, x -> x.bestDither(77, 50, 100));
        Twins.dueNoTrace("bestDither(77, 1, 0)", SelfTuner::new, x -> x.bestDither(77, 1, 0));
    }
}
