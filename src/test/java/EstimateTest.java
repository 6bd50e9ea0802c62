/** Promises 12 to 21: rounds, fits, sums, shares, cross ratios, the busiest turn. */
public final class EstimateTest {
    private static final Check CHECK = new Check("EstimateTest");

    public static void main(String[] args) {
        oneRoundByHand();
        sumsThatAreZero();
        iterate();
        fit();
        reset();
        estimateAndSumRefuse();
        orderOfSums();
        misfit();
        share();
        crossRatio();
        crossRatioOfTinyEstimates();
        busiestTurn();
        longRunsStayNumbers();
        CHECK.end();
    }

    private static TurnEstimator threeArms() {
        TurnEstimator x = new TurnEstimator();
        x.setArms(3);
        x.setInflow(0, 10);
        x.setInflow(1, 6);
        x.setOutflow(1, 8);
        x.setOutflow(2, 8);
        return x;
    }

    private static void oneRoundByHand() {
        TurnEstimator x = new TurnEstimator();
        x.setArms(3);
        int[] in = {7, 11, 13};
        int[] out = {5, 17, 9};
        double[][] e = new double[3][3];
        for (int from = 0; from < 3; from++) {
            x.setInflow(from, in[from]);
            x.setOutflow(from, out[from]);
            for (int to = 0; to < 3; to++) {
                x.setWeight(from, to, 1 + 3 * from + to * to);
                e[from][to] = 1 + 3 * from + to * to;
            }
        }
        for (int k = 1; k <= 5; k++) {
            for (int a = 0; a < 3; a++) {
                double f = in[a] / (0.0 + e[a][0] + e[a][1] + e[a][2]);
                e[a][0] *= f;
                e[a][1] *= f;
                e[a][2] *= f;
            }
            for (int a = 0; a < 3; a++) {
                double f = out[a] / (0.0 + e[0][a] + e[1][a] + e[2][a]);
                e[0][a] *= f;
                e[1][a] *= f;
                e[2][a] *= f;
            }
            CHECK.same("12: iterate(1)", x.iterate(1), k);
            for (int turn = 0; turn < 9; turn++) {
                int from = turn / 3;
                int to = turn % 3;
                CHECK.same("16: estimate " + from + " " + to, x.estimate(from, to), e[from][to]);
            }
        }
    }

    private static void sumsThatAreZero() {
        TurnEstimator x = threeArms();
        x.setWeight(1, 0, 0);
        x.setWeight(1, 2, 0);
        x.iterate(2);
        CHECK.same("12: a row of barred turns", x.sum(1, false), 0.0);
        CHECK.same("12: an outflow of 0", x.sum(0, true), 0.0);
        CHECK.same("12: an inflow of 0", x.sum(2, false), 0.0);
        CHECK.same("12: the rest of the column", x.estimate(0, 2), 8.0);
        x.setArms(3);
        x.setInflow(0, 4);
        x.iterate(1);
        CHECK.same("12: no vehicle leaves", x.misfit(), 4.0);
        CHECK.same("12: all estimates are 0", x.busiestTurn(), TurnEstimator.NONE);
        CHECK.same("12: and so it goes on", x.iterate(50), 51);
    }

    private static void iterate() {
        TurnEstimator x = threeArms();
        TurnEstimator y = threeArms();
        int[] wrong = {0, 51, -1, Integer.MAX_VALUE, Integer.MIN_VALUE};
        for (int n : wrong) {
            CHECK.refused("12: iterate(" + n + ")", x, IllegalArgumentException.class, () -> x.iterate(n));
        }
        CHECK.same("12: iterate(50)", x.iterate(50), 50);
        CHECK.same("12: iterate(1)", x.iterate(1), 51);
        CHECK.same("12: iterate(3)", x.iterate(3), 54);
        CHECK.same("15: rounds()", x.rounds(), 54);
        for (int k = 1; k <= 54; k++) {
            CHECK.same("12: one by one", y.iterate(1), k);
        }
        CHECK.same("12: together and one by one", Check.state(x), Check.state(y));
        for (int n : wrong) {
            CHECK.refused("12: iterate(" + n + ") again", x, IllegalArgumentException.class, () -> x.iterate(n));
        }
    }

    private static void fit() {
        TurnEstimator x = threeArms();
        CHECK.same("13: the misfit is the bound", x.fit(8000, 100), 0);
        CHECK.same("13: no round", x.rounds(), 0);
        CHECK.same("13: the bound is just below it", x.fit(7999, 1), 1);
        CHECK.same("15: rounds of fit count", x.rounds(), 1);
        CHECK.same("13: the limit", x.fit(0, 7), 7);
        CHECK.same("15: they add up", x.rounds(), 8);
        CHECK.same("12: with those of iterate", x.iterate(2), 10);
        fitByHand(5);
        fitByHand(100);
        fitByHand(1000);
        TurnEstimator z = new TurnEstimator();
        CHECK.same("13: a bound of 0 is reached", z.fit(0, 100), 1);
        CHECK.same("13: and kept", z.fit(0, 100), 0);
        z.setInflow(0, 100);
        CHECK.same("13: the greatest bound", z.fit(100000, 1), 0);
        z.setInflow(0, 104);
        CHECK.same("13: a misfit above it", z.fit(100000, 100), 100);
        CHECK.same("13: the greatest limit", z.rounds(), 100);
        int[][] wrong = {{-1, 1}, {100001, 1}, {0, 0}, {0, 101}, {0, -1}, {-1, 0}, {100001, 101},
            {Integer.MIN_VALUE, 5}, {Integer.MAX_VALUE, 5}, {5, Integer.MIN_VALUE}, {5, Integer.MAX_VALUE}};
        for (int[] w : wrong) {
            String what = "13: fit(" + w[0] + ", " + w[1] + ")";
            CHECK.refused(what, z, IllegalArgumentException.class, () -> z.fit(w[0], w[1]));
        }
    }

    private static void fitByHand(int thousandths) {
        TurnEstimator x = skewed();
        TurnEstimator y = skewed();
        int carriedOut = 0;
        while (carriedOut < 100 && y.misfit() > thousandths / 1000.0) {
            y.iterate(1);
            carriedOut++;
        }
        CHECK.same("13: fit(" + thousandths + ", 100)", x.fit(thousandths, 100), carriedOut);
        CHECK.same("13: some rounds, not all", carriedOut > 1 && carriedOut < 100, true);
        CHECK.same("13: the estimate of fit", Check.state(x), Check.state(y));
    }

    private static TurnEstimator skewed() {
        TurnEstimator x = new TurnEstimator();
        int[] in = {400, 120, 333, 80};
        int[] out = {250, 300, 283, 100};
        for (int arm = 0; arm < 4; arm++) {
            x.setInflow(arm, in[arm]);
            x.setOutflow(arm, out[arm]);
            x.setWeight(arm, (arm + 1) % 4, 20 + arm);
        }
        return x;
    }

    private static void reset() {
        TurnEstimator x = skewed();
        TurnEstimator fresh = skewed();
        CHECK.same("14: reset() at first", x.reset(), 0);
        x.iterate(9);
        CHECK.same("14: reset()", x.reset(), 9);
        CHECK.same("14: rounds() behind it", x.rounds(), 0);
        CHECK.same("14: the state behind it", Check.state(x), Check.state(fresh));
        CHECK.same("14: reset() again", x.reset(), 0);
        CHECK.same("15: rounds from 0 again", x.iterate(2), 2);
        x.setInflow(0, 400);
        CHECK.same("14: setInflow reset it before", x.reset(), 0);
    }

    private static void estimateAndSumRefuse() {
        TurnEstimator x = skewed();
        x.iterate(3);
        int[] wrong = {4, -1, 5, 6, 36, Integer.MAX_VALUE, Integer.MIN_VALUE};
        for (int arm : wrong) {
            Class<?> due = IndexOutOfBoundsException.class;
            CHECK.refused("16: from " + arm, x, due, () -> x.estimate(arm, 0));
            CHECK.refused("16: to " + arm, x, due, () -> x.estimate(0, arm));
            CHECK.refused("17: row " + arm, x, due, () -> x.sum(arm, false));
            CHECK.refused("17: column " + arm, x, due, () -> x.sum(arm, true));
            CHECK.refused("19: from " + arm, x, due, () -> x.share(arm, 0));
            CHECK.refused("19: to " + arm, x, due, () -> x.share(0, arm));
            CHECK.refused("20: a " + arm, x, due, () -> x.crossRatio(arm, 1, 2, 3));
            CHECK.refused("20: b " + arm, x, due, () -> x.crossRatio(0, arm, 2, 3));
            CHECK.refused("20: c " + arm, x, due, () -> x.crossRatio(0, 1, arm, 3));
            CHECK.refused("20: d " + arm, x, due, () -> x.crossRatio(0, 1, 2, arm));
            CHECK.refused("20: both apply " + arm, x, due, () -> x.crossRatio(0, 0, 0, arm));
        }
    }

    private static void orderOfSums() {
        TurnEstimator x = new TurnEstimator();
        x.setArms(6);
        for (int from = 0; from < 6; from++) {
            x.setInflow(from, 9999 - 7 * from * from);
            x.setOutflow(from, 3 + 1999 * from);
            for (int to = 0; to < 6; to++) {
                x.setWeight(from, to, 1 + (17 * from + 29 * to) % 97);
            }
        }
        int ordersThatMatter = 0;
        for (int k = 0; k < 20; k++) {
            x.iterate(1);
            for (int arm = 0; arm < 6; arm++) {
                double row = 0.0;
                double column = 0.0;
                double backwards = 0.0;
                for (int other = 0; other < 6; other++) {
                    row += x.estimate(arm, other);
                    column += x.estimate(other, arm);
                    backwards += x.estimate(arm, 5 - other);
                }
                CHECK.same("17: sum(" + arm + ", false)", x.sum(arm, false), row);
                CHECK.same("17: sum(" + arm + ", true)", x.sum(arm, true), column);
                ordersThatMatter += row != backwards ? 1 : 0;
            }
        }
        CHECK.same("17: the order of the sums matters here", ordersThatMatter > 0, true);
    }

    private static void misfit() {
        TurnEstimator x = new TurnEstimator();
        CHECK.same("18: of a new object", x.misfit(), 3.0);
        x.setInflow(2, 50);
        CHECK.same("18: of a row below its inflow", x.misfit(), 47.0);
        x.setOutflow(3, 100);
        CHECK.same("18: of a column below its outflow", x.misfit(), 97.0);
        x.setInflow(2, 0);
        x.setOutflow(3, 0);
        x.setWeight(3, 0, 40);
        CHECK.same("18: of a row and a column above", x.misfit(), 42.0);
        x.setOutflow(0, 42);
        CHECK.same("18: of the row alone", x.misfit(), 42.0);
        x.setOutflow(0, 0);
        x.setInflow(3, 42);
        CHECK.same("18: of the column alone", x.misfit(), 42.0);
        x.setOutflow(0, 42);
        CHECK.same("18: of neither", x.misfit(), 3.0);
        x.iterate(1);
        CHECK.same("18: behind a round", x.misfit(), 0.0);
    }

    private static void share() {
        TurnEstimator x = new TurnEstimator();
        x.setWeight(1, 0, 2);
        CHECK.same("19: share(1, 0)", x.share(1, 0), 0.5);
        CHECK.same("19: share(1, 3)", x.share(1, 3), 0.25);
        CHECK.same("19: share(1, 1)", x.share(1, 1), 0.0);
        CHECK.same("19: share(0, 1)", x.share(0, 1), 1.0 / 3.0);
        x.iterate(1);
        CHECK.same("19: behind a round without vehicles", x.share(1, 0), 0.0);
        x.setInflow(1, 8);
        x.setOutflow(0, 8);
        x.iterate(1);
        CHECK.same("19: all go to arm 0", x.share(1, 0), 1.0);
        CHECK.same("19: none to arm 3", x.share(1, 3), 0.0);
        x.setWeight(1, 0, 0);
        x.setWeight(1, 2, 0);
        x.setWeight(1, 3, 0);
        CHECK.same("19: barred turns alone", x.share(1, 2), 0.0);
    }

    private static void crossRatio() {
        TurnEstimator x = new TurnEstimator();
        x.setWeight(0, 2, 2);
        x.setWeight(1, 3, 3);
        x.setWeight(0, 3, 5);
        x.setWeight(1, 2, 7);
        CHECK.same("20: by hand", x.crossRatio(0, 1, 2, 3), (2.0 * 3.0) / (5.0 * 7.0));
        CHECK.same("20: arms a and b changed", x.crossRatio(1, 0, 2, 3), (5.0 * 7.0) / (2.0 * 3.0));
        CHECK.same("20: the same arms", x.crossRatio(0, 0, 2, 2), 1.0);
        CHECK.same("20: the first product is 0", x.crossRatio(0, 1, 0, 2), 0.0);
        CHECK.refused("20: the second product is 0", x, ArithmeticException.class, () -> x.crossRatio(0, 1, 1, 0));
        CHECK.refused("20: so is the first", x, ArithmeticException.class, () -> x.crossRatio(0, 0, 0, 0));
        for (int arm = 0; arm < 4; arm++) {
            x.setInflow(arm, 100 + 10 * arm);
            x.setOutflow(arm, 130 - 10 * arm);
        }
        x.iterate(12);
        CHECK.near("20: rounds do not change it", x.crossRatio(0, 1, 2, 3), 6.0 / 35.0, 1e-9);
    }

    /** Contradictory counts halve some estimates in every round, until they are 0.0. */
    private static void crossRatioOfTinyEstimates() {
        TurnEstimator x = new TurnEstimator();
        x.setArms(3);
        x.setWeight(0, 0, 3);
        x.setWeight(1, 2, 0);
        x.setInflow(0, 5);
        x.setInflow(1, 10);
        x.setInflow(2, 5);
        x.setOutflow(0, 5);
        x.setOutflow(1, 10);
        int ended = 0;
        for (int k = 0; k < 250; k++) {
            double first = x.estimate(0, 1) * x.estimate(2, 0);
            double second = x.estimate(0, 0) * x.estimate(2, 1);
            if (second > 0.0) {
                CHECK.same("20: as long as there is a product", x.crossRatio(0, 2, 1, 0), first / second);
            } else {
                String thrown = Check.thrownBy(() -> x.crossRatio(0, 2, 1, 0));
                CHECK.same("20: when it is 0.0", thrown, "ArithmeticException");
                ended++;
            }
            x.iterate(10);
        }
        CHECK.same("20: both were seen", ended > 10 && ended < 240, true);
    }

    private static void busiestTurn() {
        TurnEstimator x = new TurnEstimator();
        CHECK.same("21: of a new object", x.busiestTurn(), 1);
        x.setWeight(3, 2, 2);
        CHECK.same("21: one is greater", x.busiestTurn(), 32);
        x.setWeight(2, 3, 2);
        CHECK.same("21: of two the least number", x.busiestTurn(), 23);
        x.setWeight(2, 0, 2);
        CHECK.same("21: of three", x.busiestTurn(), 20);
        x.setWeight(0, 0, 9);
        CHECK.same("21: a turn back", x.busiestTurn(), 0);
        x.iterate(1);
        CHECK.same("21: all are 0.0", x.busiestTurn(), TurnEstimator.NONE);
        x.setInflow(1, 3);
        x.setOutflow(3, 1);
        x.iterate(1);
        CHECK.same("21: only one is not", x.busiestTurn(), 13);
        x.setArms(6);
        x.setWeight(5, 5, 99);
        CHECK.same("21: of six arms", x.busiestTurn(), 55);
        x.setWeight(5, 5, 1);
        for (int from = 0; from < 6; from++) {
            x.setInflow(from, from == 0 ? 0 : 5);
        }
        x.setOutflow(5, 1);
        x.iterate(1);
        CHECK.same("21: of five estimates of a fifth", x.busiestTurn(), 15);
    }

    /** The longest run of rounds that an object can see, with contradictory and with edgy counts. */
    private static void longRunsStayNumbers() {
        int[][] someCounts = {
            {9999, 1, 1, 1, 1, 9999}, {1, 9999, 1, 9999, 1, 1}, {9999, 9999, 1, 1, 9999, 9999},
            {9999, 9999, 9999, 1, 1, 1}, {1, 1, 1, 9999, 9999, 9999}, {5, 0, 9999, 0, 5, 1},
        };
        for (int[] c : someCounts) {
            for (int open = 0; open < 512; open += 5) {
                TurnEstimator x = new TurnEstimator();
                x.setArms(3);
                for (int arm = 0; arm < 3; arm++) {
                    x.setInflow(arm, c[arm]);
                    x.setOutflow(arm, c[3 + arm]);
                }
                for (int turn = 0; turn < 9; turn++) {
                    x.setWeight(turn / 3, turn % 3, ((open >> turn) & 1) * (1 + 98 * (turn % 2)));
                }
                for (int k = 0; k < 40; k++) {
                    x.fit(0, 100);
                }
                boolean numbers = x.misfit() >= 0.0 && x.misfit() <= 60000.0;
                for (int arm = 0; arm < 3; arm++) {
                    numbers &= x.sum(arm, false) >= 0.0 && x.sum(arm, true) >= 0.0;
                }
                CHECK.same("12: numbers behind long runs, turns " + open, numbers, true);
            }
        }
    }
}
