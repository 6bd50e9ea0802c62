/** Promises 22 and 23: the rounded table and how far it is from the outflows. */
public final class RoundingTest {
    private static final Check CHECK = new Check("RoundingTest");

    public static void main(String[] args) {
        equalFractions();
        greatestFractionFirst();
        barredTurnsGetNone();
        noRowSum();
        rowsThatMissTheirInflow();
        followsTheEstimate();
        roundedMisfit();
        refuses();
        CHECK.end();
    }

    private static void row(String what, TurnEstimator x, int from, int... due) {
        for (int to = 0; to < due.length; to++) {
            CHECK.same(what + ", " + from + " " + to, x.rounded(from, to), due[to]);
        }
    }

    private static void equalFractions() {
        TurnEstimator x = new TurnEstimator();
        x.setInflow(1, 9);
        row("22: no fraction", x, 1, 3, 0, 3, 3);
        x.setInflow(1, 10);
        row("22: one is over", x, 1, 4, 0, 3, 3);
        x.setInflow(1, 11);
        row("22: two are over", x, 1, 4, 0, 4, 3);
        x.setInflow(1, 1);
        row("22: one vehicle", x, 1, 1, 0, 0, 0);
        x.setInflow(1, 0);
        row("22: none", x, 1, 0, 0, 0, 0);
        x.setInflow(1, 9999);
        row("22: the most", x, 1, 3333, 0, 3333, 3333);
    }

    private static void greatestFractionFirst() {
        TurnEstimator x = new TurnEstimator();
        x.setWeight(0, 0, 1);
        x.setWeight(0, 1, 2);
        x.setWeight(0, 2, 3);
        x.setWeight(0, 3, 4);
        x.setInflow(0, 11);
        row("22: 1.1 2.2 3.3 4.4", x, 0, 1, 2, 3, 5);
        x.setInflow(0, 12);
        row("22: 1.2 2.4 3.6 4.8", x, 0, 1, 2, 4, 5);
        x.setInflow(0, 17);
        row("22: 1.7 3.4 5.1 6.8", x, 0, 2, 3, 5, 7);
        x.setInflow(0, 15);
        row("22: 1.5 3.0 4.5 6.0", x, 0, 2, 3, 4, 6);
        x.setInflow(0, 3);
        row("22: 0.3 0.6 0.9 1.2", x, 0, 0, 1, 1, 1);
    }

    private static void barredTurnsGetNone() {
        TurnEstimator x = new TurnEstimator();
        x.setWeight(2, 0, 0);
        x.setWeight(2, 1, 0);
        x.setInflow(2, 7);
        row("22: one turn is open", x, 2, 0, 0, 0, 7);
        x.setWeight(2, 1, 99);
        row("22: two turns are open", x, 2, 0, 7, 0, 0);
        x.setInflow(2, 99);
        row("22: 98.01 and 0.99", x, 2, 0, 98, 0, 1);
    }

    private static void noRowSum() {
        TurnEstimator x = new TurnEstimator();
        x.setInflow(0, 5);
        row("22: with the weights", x, 0, 0, 2, 2, 1);
        x.iterate(1);
        row("22: all estimates are 0.0", x, 0, 0, 0, 0, 0);
        x.setWeight(0, 1, 0);
        x.setWeight(0, 2, 0);
        x.setWeight(0, 3, 0);
        row("22: all turns are barred", x, 0, 0, 0, 0, 0);
    }

    /** Junctions in which x misses the inflow by a rounding error, though one turn takes it all. */
    private static void rowsThatMissTheirInflow() {
        TurnEstimator x = new TurnEstimator();
        x.setArms(3);
        x.setInflow(0, 3);
        x.setInflow(1, 3);
        x.setOutflow(0, 2);
        x.setOutflow(1, 2);
        x.setWeight(1, 1, 7);
        x.iterate(4);
        double below = x.estimate(0, 1) * 3 / x.sum(0, false);
        CHECK.same("22: x is less than 3.0", below, 2.9999999999999996);
        row("22: and the turn gets one more", x, 0, 0, 3, 0);
        x.setArms(3);
        x.setInflow(0, 3);
        x.setInflow(1, 1);
        x.setOutflow(0, 1);
        x.setOutflow(1, 2);
        x.setOutflow(2, 3);
        x.setWeight(0, 1, 8);
        x.setWeight(0, 2, 0);
        x.setWeight(1, 0, 3);
        x.setWeight(1, 1, 10);
        x.iterate(3);
        double above = x.estimate(0, 1) * 3 / x.sum(0, false);
        CHECK.same("22: x is greater than 3.0", above, 3.0000000000000004);
        row("22: and is rounded down", x, 0, 0, 3, 0);
    }

    private static void followsTheEstimate() {
        TurnEstimator x = new TurnEstimator();
        x.setArms(3);
        x.setInflow(0, 10);
        x.setInflow(1, 6);
        x.setOutflow(1, 8);
        x.setOutflow(2, 8);
        row("22: the weights", x, 0, 0, 5, 5);
        row("22: the weights", x, 1, 3, 0, 3);
        x.iterate(1);
        row("22: behind a round, 8.0 and 5.0", x, 0, 0, 6, 4);
        row("22: behind a round, 3.0", x, 1, 0, 0, 6);
        CHECK.same("22: rounded changes nothing", x.estimate(0, 1), 8.0);
        x.iterate(50);
        row("22: in the end", x, 0, 0, 8, 2);
        row("22: in the end", x, 1, 0, 0, 6);
        CHECK.same("23: in the end", x.roundedMisfit(), 0);
    }

    private static void roundedMisfit() {
        TurnEstimator x = new TurnEstimator();
        CHECK.same("23: of a new object", x.roundedMisfit(), 0);
        x.setOutflow(3, 7);
        CHECK.same("23: too few leave", x.roundedMisfit(), 7);
        x.setInflow(0, 3);
        CHECK.same("23: one of three to arm 3", x.roundedMisfit(), 1 + 1 + 6);
        x.setInflow(1, 30);
        CHECK.same("23: too many and too few", x.roundedMisfit(), 10 + 1 + 11 + 4);
        x.iterate(1);
        CHECK.same("23: all to arm 3", x.roundedMisfit(), 33 - 7);
        CHECK.same("23: it changes nothing", x.rounds(), 1);
    }

    private static void refuses() {
        TurnEstimator x = new TurnEstimator();
        x.setInflow(0, 5);
        x.setOutflow(1, 7);
        x.iterate(1);
        int[] wrong = {4, -1, 5, 6, 7, Integer.MAX_VALUE, Integer.MIN_VALUE};
        for (int arm : wrong) {
            CHECK.refused("22: from " + arm, x, IndexOutOfBoundsException.class, () -> x.rounded(arm, 0));
            CHECK.refused("22: to " + arm, x, IndexOutOfBoundsException.class, () -> x.rounded(0, arm));
        }
    }
}
