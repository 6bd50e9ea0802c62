/** Promises 1 to 8: new objects, arms, counts, weights, scaling, imbalance. */
public final class CountsTest {
    private static final Check CHECK = new Check("CountsTest");

    public static void main(String[] args) {
        newObject();
        setArms();
        setArmsBeginsANewJunction();
        setInflow();
        setOutflow();
        setWeight();
        scale();
        scaleRefuses();
        imbalance();
        CHECK.end();
    }

    private static void newObject() {
        TurnEstimator x = new TurnEstimator();
        CHECK.same("1: arms()", x.arms(), 4);
        newJunction("1", x, 4);
        TurnEstimator other = new TurnEstimator();
        other.setInflow(0, 7);
        CHECK.same("1: another object's inflow", x.setInflow(0, 1), 0);
    }

    /** Looks at everything that is said of a new junction; it leaves the counts and weights 0. */
    private static void newJunction(String what, TurnEstimator x, int n) {
        CHECK.same(what + ": rounds()", x.rounds(), 0);
        CHECK.same(what + ": imbalance()", x.imbalance(), 0);
        CHECK.same(what + ": isPossible()", x.isPossible(), true);
        for (int from = 0; from < n; from++) {
            for (int to = 0; to < n; to++) {
                double due = from == to ? 0.0 : 1.0;
                CHECK.same(what + ": estimate " + from + " " + to, x.estimate(from, to), due);
            }
        }
        for (int from = 0; from < n; from++) {
            CHECK.same(what + ": inflow " + from, x.setInflow(from, 0), 0);
            CHECK.same(what + ": outflow " + from, x.setOutflow(from, 0), 0);
            for (int to = 0; to < n; to++) {
                CHECK.same(what + ": weight " + from + " " + to, x.setWeight(from, to, 0), from == to ? 0 : 1);
            }
        }
    }

    private static void setArms() {
        TurnEstimator x = new TurnEstimator();
        int[] wrong = {2, 7, 0, -1, -4, 100, Integer.MIN_VALUE, Integer.MAX_VALUE};
        for (int n : wrong) {
            CHECK.refused("2: setArms(" + n + ")", x, IllegalArgumentException.class, () -> x.setArms(n));
        }
        int[] row = {3, 6, 5, 4, 4, 6, 3, 3, 5};
        int previous = 4;
        for (int n : row) {
            CHECK.same("2: setArms(" + n + ")", x.setArms(n), previous);
            CHECK.same("3: arms()", x.arms(), n);
            CHECK.refused("2: estimate(n, 0)", x, IndexOutOfBoundsException.class, () -> x.estimate(n, 0));
            CHECK.same("2: estimate of the last arm", x.estimate(n - 1, 0), 1.0);
            previous = n;
        }
    }

    private static void setArmsBeginsANewJunction() {
        for (int first = 3; first <= 6; first++) {
            for (int second = 3; second <= 6; second++) {
                TurnEstimator x = new TurnEstimator();
                x.setArms(first);
                fill(x, first);
                x.iterate(3);
                x.setArms(second);
                TurnEstimator fresh = new TurnEstimator();
                fresh.setArms(second);
                String what = "2: setArms(" + first + ") and setArms(" + second + ")";
                CHECK.same(what, Check.state(x), Check.state(fresh));
                newJunction(what, x, second);
            }
        }
    }

    private static void fill(TurnEstimator x, int n) {
        for (int from = 0; from < n; from++) {
            x.setInflow(from, 100 + from);
            x.setOutflow(from, 200 - from);
            for (int to = 0; to < n; to++) {
                x.setWeight(from, to, 10 * from + to + 1);
            }
        }
    }

    private static void setInflow() {
        TurnEstimator x = new TurnEstimator();
        CHECK.same("4: setInflow(3, 9999)", x.setInflow(3, 9999), 0);
        CHECK.same("4: setInflow(3, 0)", x.setInflow(3, 0), 9999);
        CHECK.same("4: setInflow(3, 12)", x.setInflow(3, 12), 0);
        CHECK.same("4: setInflow(0, 5)", x.setInflow(0, 5), 0);
        CHECK.same("4: imbalance()", x.imbalance(), 17);
        CHECK.same("4: the outflow stays", x.setOutflow(3, 0), 0);
        x.iterate(2);
        CHECK.same("4: setInflow(1, 0)", x.setInflow(1, 0), 0);
        CHECK.same("4: the same inflow resets too", x.rounds(), 0);
        CHECK.same("4: the estimate is reset", x.estimate(0, 1), 1.0);
        x.iterate(1);
        int[] arms = {4, -1, 5, 6, Integer.MAX_VALUE, Integer.MIN_VALUE};
        for (int arm : arms) {
            CHECK.refused("4: arm " + arm, x, IndexOutOfBoundsException.class, () -> x.setInflow(arm, 1));
            CHECK.refused("4: both, arm " + arm, x, IndexOutOfBoundsException.class, () -> x.setInflow(arm, 10000));
        }
        int[] vehicles = {10000, -1, Integer.MAX_VALUE, Integer.MIN_VALUE};
        for (int v : vehicles) {
            CHECK.refused("4: vehicles " + v, x, IllegalArgumentException.class, () -> x.setInflow(0, v));
        }
        CHECK.same("4: rounds behind refusals", x.rounds(), 1);
    }

    private static void setOutflow() {
        TurnEstimator x = new TurnEstimator();
        CHECK.same("5: setOutflow(3, 9999)", x.setOutflow(3, 9999), 0);
        CHECK.same("5: setOutflow(3, 0)", x.setOutflow(3, 0), 9999);
        CHECK.same("5: setOutflow(3, 12)", x.setOutflow(3, 12), 0);
        CHECK.same("5: setOutflow(0, 5)", x.setOutflow(0, 5), 0);
        CHECK.same("5: imbalance()", x.imbalance(), -17);
        CHECK.same("5: the inflow stays", x.setInflow(3, 0), 0);
        x.iterate(2);
        CHECK.same("5: setOutflow(1, 0)", x.setOutflow(1, 0), 0);
        CHECK.same("5: the same outflow resets too", x.rounds(), 0);
        CHECK.same("5: the estimate is reset", x.estimate(1, 0), 1.0);
        x.iterate(1);
        int[] arms = {4, -1, 5, 6, Integer.MAX_VALUE, Integer.MIN_VALUE};
        for (int arm : arms) {
            CHECK.refused("5: arm " + arm, x, IndexOutOfBoundsException.class, () -> x.setOutflow(arm, 1));
            CHECK.refused("5: both, arm " + arm, x, IndexOutOfBoundsException.class, () -> x.setOutflow(arm, -1));
        }
        int[] vehicles = {10000, -1, Integer.MAX_VALUE, Integer.MIN_VALUE};
        for (int v : vehicles) {
            CHECK.refused("5: vehicles " + v, x, IllegalArgumentException.class, () -> x.setOutflow(0, v));
        }
        CHECK.same("5: rounds behind refusals", x.rounds(), 1);
    }

    private static void setWeight() {
        TurnEstimator x = new TurnEstimator();
        CHECK.same("6: setWeight(1, 2, 99)", x.setWeight(1, 2, 99), 1);
        CHECK.same("6: setWeight(1, 2, 0)", x.setWeight(1, 2, 0), 99);
        CHECK.same("6: setWeight(1, 2, 7)", x.setWeight(1, 2, 7), 0);
        CHECK.same("6: setWeight(2, 1, 4)", x.setWeight(2, 1, 4), 1);
        CHECK.same("6: estimate(1, 2)", x.estimate(1, 2), 7.0);
        CHECK.same("6: estimate(2, 1)", x.estimate(2, 1), 4.0);
        x.setInflow(1, 50);
        x.iterate(2);
        CHECK.same("6: setWeight(3, 0, 1)", x.setWeight(3, 0, 1), 1);
        CHECK.same("6: the same weight resets too", x.rounds(), 0);
        CHECK.same("6: the estimate is reset", x.estimate(1, 2), 7.0);
        x.iterate(1);
        int[] arms = {4, -1, 5, 6, Integer.MAX_VALUE, Integer.MIN_VALUE};
        for (int arm : arms) {
            CHECK.refused("6: from " + arm, x, IndexOutOfBoundsException.class, () -> x.setWeight(arm, 1, 1));
            CHECK.refused("6: to " + arm, x, IndexOutOfBoundsException.class, () -> x.setWeight(1, arm, 1));
            CHECK.refused("6: both, to " + arm, x, IndexOutOfBoundsException.class, () -> x.setWeight(1, arm, 100));
            CHECK.refused("6: both, from " + arm, x, IndexOutOfBoundsException.class, () -> x.setWeight(arm, 1, -1));
        }
        int[] weights = {100, -1, Integer.MAX_VALUE, Integer.MIN_VALUE};
        for (int w : weights) {
            CHECK.refused("6: weight " + w, x, IllegalArgumentException.class, () -> x.setWeight(0, 1, w));
        }
        CHECK.same("6: rounds behind refusals", x.rounds(), 1);
    }

    private static void scale() {
        TurnEstimator x = new TurnEstimator();
        x.setInflow(0, 1);
        x.setInflow(1, 3);
        x.setInflow(3, 100);
        x.setOutflow(0, 99);
        x.setOutflow(2, 5);
        x.iterate(4);
        CHECK.same("7: scale(50)", x.scale(50), 1 + 2 + 50);
        CHECK.same("7: scale resets the rounds", x.rounds(), 0);
        CHECK.same("7: scale resets the estimate", x.estimate(0, 1), 1.0);
        CHECK.same("7: inflow 0", x.setInflow(0, 0), 1);
        CHECK.same("7: inflow 1", x.setInflow(1, 0), 2);
        CHECK.same("7: inflow 3", x.setInflow(3, 0), 50);
        CHECK.same("7: outflow 0", x.setOutflow(0, 3333), 50);
        CHECK.same("7: outflow 2", x.setOutflow(2, 1), 3);
        CHECK.same("7: scale(300)", x.scale(300), 0);
        CHECK.same("7: outflow 0, tripled", x.setOutflow(0, 1), 9999);
        CHECK.same("7: outflow 2, tripled", x.setOutflow(2, 1), 3);
        x.setInflow(2, 1);
        CHECK.same("7: scale(49)", x.scale(49), 0);
        CHECK.same("7: outflow 0 by 49 percent", x.setOutflow(0, 9999), 0);
        x.iterate(1);
        CHECK.same("7: scale(100)", x.scale(100), 0);
        CHECK.same("7: scale(100) resets too", x.rounds(), 0);
        CHECK.same("7: outflow 0 by 100 percent", x.setOutflow(0, 9999), 9999);
        CHECK.same("7: scale(0)", x.scale(0), 0);
        CHECK.same("7: outflow 0 by 0 percent", x.setOutflow(0, 0), 0);
    }

    private static void scaleRefuses() {
        for (int arm = 0; arm < 4; arm++) {
            TurnEstimator x = new TurnEstimator();
            int a = arm;
            for (int other = 0; other < 4; other++) {
                x.setInflow(other, 10);
                x.setOutflow(other, 20);
            }
            x.iterate(2);
            int[] wrong = {301, -1, Integer.MAX_VALUE, Integer.MIN_VALUE};
            for (int p : wrong) {
                CHECK.refused("7: scale(" + p + ")", x, IllegalArgumentException.class, () -> x.scale(p));
            }
            x.setInflow(a, 5000);
            x.iterate(2);
            CHECK.refused("7: inflow " + a + " by 200", x, IllegalStateException.class, () -> x.scale(200));
            CHECK.refused("7: both apply", x, IllegalArgumentException.class, () -> x.scale(301));
            x.setInflow(a, 10);
            x.setOutflow(a, 3334);
            x.iterate(2);
            CHECK.refused("7: outflow " + a + " by 300", x, IllegalStateException.class, () -> x.scale(300));
            CHECK.same("7: rounds behind refusals", x.rounds(), 2);
            x.setOutflow(a, 9950);
            CHECK.same("7: just not too much", Check.thrownBy(() -> x.scale(100)), "nothing");
        }
        TurnEstimator x = new TurnEstimator();
        x.setInflow(1, 6666);
        CHECK.same("7: 6666 by 150 percent", x.scale(150), 9999);
        x.setInflow(1, 6667);
        CHECK.refused("7: 6667 by 150 percent", x, IllegalStateException.class, () -> x.scale(150));
        // An arm that is gone no longer has counts.
        x.setArms(6);
        x.setInflow(5, 9999);
        x.setArms(3);
        CHECK.same("7: an arm that is gone", x.scale(300), 0);
    }

    private static void imbalance() {
        TurnEstimator x = new TurnEstimator();
        x.setArms(6);
        for (int arm = 0; arm < 6; arm++) {
            x.setInflow(arm, 9999);
        }
        CHECK.same("8: all inflows", x.imbalance(), 59994);
        for (int arm = 0; arm < 6; arm++) {
            x.setOutflow(arm, 9999 - arm);
        }
        CHECK.same("8: inflows and outflows", x.imbalance(), 15);
        x.scale(0);
        x.setOutflow(5, 9999);
        CHECK.same("8: an outflow alone", x.imbalance(), -9999);
    }
}
