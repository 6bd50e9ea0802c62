/** Promises 1 to 8 with ordinary inputs; their boundary cases are in CountsBoundaries. */
public final class CountsTest {
    private static final Check CHECK = new Check("CountsTest");

    public static void main(String[] args) {
        newObject();
        arms();
        counts();
        weights();
        scale();
        imbalance();
        CHECK.end();
    }

    private static void newObject() {
        TurnEstimator x = new TurnEstimator();
        CHECK.same("1: arms()", x.arms(), 4);
        CHECK.same("1: isPossible()", x.isPossible(), true);
        CHECK.same("1: estimate(0, 1)", x.estimate(0, 1), 1.0);
        CHECK.same("1: estimate(2, 2)", x.estimate(2, 2), 0.0);
        CHECK.same("1: setInflow(0, 1)", x.setInflow(0, 1), 0);
    }

    private static void arms() {
        TurnEstimator x = new TurnEstimator();
        x.setInflow(1, 44);
        x.setWeight(1, 2, 9);
        CHECK.same("2: setArms(5)", x.setArms(5), 4);
        CHECK.same("3: arms()", x.arms(), 5);
        CHECK.same("2: a new inflow", x.setInflow(1, 0), 0);
        CHECK.same("2: a new weight", x.setWeight(1, 2, 1), 1);
        CHECK.same("2: setArms(5) again", x.setArms(5), 5);
    }

    private static void counts() {
        TurnEstimator x = new TurnEstimator();
        CHECK.same("4: setInflow(3, 12)", x.setInflow(3, 12), 0);
        CHECK.same("4: setInflow(0, 5)", x.setInflow(0, 5), 0);
        CHECK.same("4: setInflow(3, 8)", x.setInflow(3, 8), 12);
        CHECK.same("4: imbalance()", x.imbalance(), 13);
        CHECK.same("5: setOutflow(3, 20)", x.setOutflow(3, 20), 0);
        CHECK.same("5: setOutflow(0, 1)", x.setOutflow(0, 1), 0);
        CHECK.same("5: setOutflow(3, 4)", x.setOutflow(3, 4), 20);
        CHECK.same("5: imbalance()", x.imbalance(), 8);
        CHECK.same("4: the inflow stays", x.setInflow(3, 0), 8);
        CHECK.same("5: the outflow stays", x.setOutflow(3, 0), 4);
    }

    private static void weights() {
        TurnEstimator x = new TurnEstimator();
        CHECK.same("6: setWeight(1, 2, 7)", x.setWeight(1, 2, 7), 1);
        CHECK.same("6: setWeight(2, 1, 4)", x.setWeight(2, 1, 4), 1);
        CHECK.same("6: setWeight(3, 3, 5)", x.setWeight(3, 3, 5), 0);
        CHECK.same("6: estimate(1, 2)", x.estimate(1, 2), 7.0);
        CHECK.same("6: estimate(2, 1)", x.estimate(2, 1), 4.0);
        x.setInflow(1, 50);
        x.setOutflow(2, 50);
        x.iterate(2);
        CHECK.same("6: setWeight(3, 0, 2)", x.setWeight(3, 0, 2), 1);
        CHECK.same("6: rounds() behind it", x.rounds(), 0);
        CHECK.same("6: the estimate is reset", x.estimate(1, 2), 7.0);
    }

    private static void scale() {
        TurnEstimator x = new TurnEstimator();
        Junctions.counts(x, new int[] {1, 3, 0, 100}, new int[] {99, 0, 5, 0});
        x.iterate(4);
        CHECK.same("7: scale(50)", x.scale(50), 1 + 2 + 50);
        CHECK.same("7: rounds() behind it", x.rounds(), 0);
        CHECK.same("7: the estimate is reset", x.estimate(0, 1), 1.0);
        CHECK.same("7: inflow 0", x.setInflow(0, 0), 1);
        CHECK.same("7: inflow 1", x.setInflow(1, 0), 2);
        CHECK.same("7: inflow 3", x.setInflow(3, 0), 50);
        CHECK.same("7: outflow 0", x.setOutflow(0, 10), 50);
        CHECK.same("7: outflow 2", x.setOutflow(2, 1), 3);
        x.setInflow(1, 40);
        CHECK.same("7: scale(120)", x.scale(120), 48);
        CHECK.same("7: outflow 0 by 120", x.setOutflow(0, 0), 12);
        CHECK.same("7: outflow 2 by 120", x.setOutflow(2, 0), 1);
    }

    private static void imbalance() {
        TurnEstimator x = Junctions.fresh(3);
        Junctions.counts(x, new int[] {10, 20, 30}, new int[] {7, 0, 60});
        CHECK.same("8: more leave", x.imbalance(), -7);
        x.setInflow(0, 30);
        CHECK.same("8: more enter", x.imbalance(), 13);
    }
}
