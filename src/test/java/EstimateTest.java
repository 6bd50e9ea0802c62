/** Promises 12 to 21 with ordinary inputs; their boundary cases are in EstimateBoundaries. */
public final class EstimateTest {
    private static final Check CHECK = new Check("EstimateTest");

    public static void main(String[] args) {
        oneRoundByHand();
        iterateAndFit();
        sumsAndMisfit();
        reset();
        share();
        crossRatio();
        busiestTurn();
        longRunsStayNumbers();
        CHECK.end();
    }

    private static void oneRoundByHand() {
        TurnEstimator x = new TurnEstimator();
        x.setArms(3);
        int[] in = {7, 11, 13};
        int[] out = {5, 17, 9};
        double[][] e = new double[3][3];
        for (int from = 0; from < 3; from++) {
            x.setInflow(from, in[from]);
            x.setOutflow(from, out[from]);
            for (int to = 0; to < 3; to++) {
                x.setWeight(from, to, 1 + 3 * from + to * to);
                e[from][to] = 1 + 3 * from + to * to;
            }
        }
        for (int k = 1; k <= 5; k++) {
            for (int a = 0; a < 3; a++) {
                double f = in[a] / (0.0 + e[a][0] + e[a][1] + e[a][2]);
                e[a][0] *= f;
                e[a][1] *= f;
                e[a][2] *= f;
            }
            for (int a = 0; a < 3; a++) {
                double f = out[a] / (0.0 + e[0][a] + e[1][a] + e[2][a]);
                e[0][a] *= f;
                e[1][a] *= f;
                e[2][a] *= f;
            }
            CHECK.same("12: iterate(1)", x.iterate(1), k);
            for (int turn = 0; turn < 9; turn++) {
                int from = turn / 3;
                int to = turn % 3;
                CHECK.same("16: estimate " + from + " " + to, x.estimate(from, to), e[from][to]);
            }
        }
    }

    private static void iterateAndFit() {
        TurnEstimator x = skewed();
        CHECK.same("12: iterate(3)", x.iterate(3), 3);
        CHECK.same("12: iterate(7)", x.iterate(7), 10);
        CHECK.same("15: rounds()", x.rounds(), 10);
        TurnEstimator y = skewed();
        CHECK.same("13: fit(0, 7)", y.fit(0, 7), 7);
        CHECK.same("15: rounds of fit count", y.rounds(), 7);
        CHECK.same("12: with those of iterate", y.iterate(3), 10);
        CHECK.same("13: the same estimate", Check.state(x), Check.state(y));
        fitByHand(5);
        fitByHand(100);
        fitByHand(1000);
    }

    private static void fitByHand(int thousandths) {
        TurnEstimator x = skewed();
        TurnEstimator y = skewed();
        int carriedOut = 0;
        while (carriedOut < 100 && y.misfit() > thousandths / 1000.0) {
            y.iterate(1);
            carriedOut++;
        }
        CHECK.same("13: fit(" + thousandths + ", 100)", x.fit(thousandths, 100), carriedOut);
        CHECK.same("13: some rounds, not all", carriedOut > 1 && carriedOut < 100, true);
        CHECK.same("13: the estimate of fit", Check.state(x), Check.state(y));
    }

    private static TurnEstimator skewed() {
        TurnEstimator x = new TurnEstimator();
        int[] in = {400, 120, 333, 80};
        int[] out = {250, 300, 283, 100};
        for (int arm = 0; arm < 4; arm++) {
            x.setInflow(arm, in[arm]);
            x.setOutflow(arm, out[arm]);
            x.setWeight(arm, (arm + 1) % 4, 20 + arm);
        }
        return x;
    }

    private static void reset() {
        TurnEstimator x = skewed();
        TurnEstimator fresh = skewed();
        CHECK.same("14: reset() at first", x.reset(), 0);
        x.iterate(9);
        CHECK.same("14: reset()", x.reset(), 9);
        CHECK.same("14: rounds() behind it", x.rounds(), 0);
        CHECK.same("14: the state behind it", Check.state(x), Check.state(fresh));
        CHECK.same("14: reset() again", x.reset(), 0);
        CHECK.same("15: rounds from 0 again", x.iterate(2), 2);
        x.setInflow(0, 400);
        CHECK.same("14: setInflow reset it before", x.reset(), 0);
    }

    private static void sumsAndMisfit() {
        TurnEstimator x = skewed();
        CHECK.same("16: estimate(1, 2)", x.estimate(1, 2), 21.0);
        CHECK.same("17: the row sum of arm 1", x.sum(1, false), 23.0);
        CHECK.same("17: the column sum of arm 1", x.sum(1, true), 22.0);
        CHECK.same("18: misfit()", x.misfit(), 400.0 - 22.0);
        x.fit(10, 100);
        CHECK.near("17: the row sum of arm 1, fitted", x.sum(1, false), 120.0, 0.01);
        CHECK.near("17: the column sum of arm 1, fitted", x.sum(1, true), 300.0, 0.01);
        CHECK.near("18: misfit(), fitted", x.misfit(), 0.0, 0.01);
    }

    private static void share() {
        TurnEstimator x = new TurnEstimator();
        x.setWeight(1, 0, 2);
        CHECK.same("19: share(1, 0)", x.share(1, 0), 0.5);
        CHECK.same("19: share(1, 3)", x.share(1, 3), 0.25);
        CHECK.same("19: share(1, 1)", x.share(1, 1), 0.0);
        CHECK.same("19: share(0, 1)", x.share(0, 1), 1.0 / 3.0);
        x.iterate(1);
        CHECK.same("19: behind a round without vehicles", x.share(1, 0), 0.0);
        x.setInflow(1, 8);
        x.setOutflow(0, 8);
        x.iterate(1);
        CHECK.same("19: all go to arm 0", x.share(1, 0), 1.0);
        CHECK.same("19: none to arm 3", x.share(1, 3), 0.0);
        x.setWeight(1, 0, 0);
        x.setWeight(1, 2, 0);
        x.setWeight(1, 3, 0);
        CHECK.same("19: barred turns alone", x.share(1, 2), 0.0);
    }

    private static void crossRatio() {
        TurnEstimator x = new TurnEstimator();
        x.setWeight(0, 2, 2);
        x.setWeight(1, 3, 3);
        x.setWeight(0, 3, 5);
        x.setWeight(1, 2, 7);
        CHECK.same("20: by hand", x.crossRatio(0, 1, 2, 3), (2.0 * 3.0) / (5.0 * 7.0));
        CHECK.same("20: arms a and b changed", x.crossRatio(1, 0, 2, 3), (5.0 * 7.0) / (2.0 * 3.0));
        CHECK.same("20: the same arms", x.crossRatio(0, 0, 2, 2), 1.0);
        CHECK.same("20: the first product is 0", x.crossRatio(0, 1, 0, 2), 0.0);
        for (int arm = 0; arm < 4; arm++) {
            x.setInflow(arm, 100 + 10 * arm);
            x.setOutflow(arm, 130 - 10 * arm);
        }
        x.iterate(12);
        CHECK.near("20: rounds do not change it", x.crossRatio(0, 1, 2, 3), 6.0 / 35.0, 1e-9);
    }

    private static void busiestTurn() {
        TurnEstimator x = new TurnEstimator();
        CHECK.same("21: of a new object", x.busiestTurn(), 1);
        x.setWeight(3, 2, 2);
        CHECK.same("21: one is greater", x.busiestTurn(), 32);
        x.setWeight(2, 3, 2);
        CHECK.same("21: of two the least number", x.busiestTurn(), 23);
        x.setWeight(2, 0, 2);
        CHECK.same("21: of three", x.busiestTurn(), 20);
        x.setWeight(0, 0, 9);
        CHECK.same("21: a turn back", x.busiestTurn(), 0);
        x.iterate(1);
        CHECK.same("21: all are 0.0", x.busiestTurn(), TurnEstimator.NONE);
        x.setInflow(1, 3);
        x.setOutflow(3, 1);
        x.iterate(1);
        CHECK.same("21: only one is not", x.busiestTurn(), 13);
        x.setArms(6);
        x.setWeight(5, 5, 99);
        CHECK.same("21: of six arms", x.busiestTurn(), 55);
        x.setWeight(5, 5, 1);
        for (int from = 0; from < 6; from++) {
            x.setInflow(from, from == 0 ? 0 : 5);
        }
        x.setOutflow(5, 1);
        x.iterate(1);
        CHECK.same("21: of five estimates of a fifth", x.busiestTurn(), 15);
    }

    /** The longest run of rounds that an object can see, with contradictory and with edgy counts. */
    private static void longRunsStayNumbers() {
        int[][] someCounts = {
            {9999, 1, 1, 1, 1, 9999}, {1, 9999, 1, 9999, 1, 1}, {9999, 9999, 1, 1, 9999, 9999},
            {9999, 9999, 9999, 1, 1, 1}, {1, 1, 1, 9999, 9999, 9999}, {5, 0, 9999, 0, 5, 1},
        };
        for (int[] c : someCounts) {
            for (int open = 0; open < 512; open += 5) {
                TurnEstimator x = new TurnEstimator();
                x.setArms(3);
                for (int arm = 0; arm < 3; arm++) {
                    x.setInflow(arm, c[arm]);
                    x.setOutflow(arm, c[3 + arm]);
                }
                for (int turn = 0; turn < 9; turn++) {
                    x.setWeight(turn / 3, turn % 3, ((open >> turn) & 1) * (1 + 98 * (turn % 2)));
                }
                for (int k = 0; k < 40; k++) {
                    x.fit(0, 100);
                }
                boolean numbers = x.misfit() >= 0.0 && x.misfit() <= 60000.0;
                for (int arm = 0; arm < 3; arm++) {
                    numbers &= x.sum(arm, false) >= 0.0 && x.sum(arm, true) >= 0.0;
                }
                CHECK.same("12: numbers behind long runs, turns " + open, numbers, true);
            }
        }
    }
}
