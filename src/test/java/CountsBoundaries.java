/** The boundary cases of promises 1 to 8: the junction, its counts and its weights. */
final class CountsBoundaries {
    private static final int[] NO_COUNTS = {-1, 10000, Integer.MIN_VALUE, Integer.MAX_VALUE};
    private static final int[] NO_WEIGHTS = {-1, 100, Integer.MIN_VALUE, Integer.MAX_VALUE};
    private static final int[] NO_PERCENTS = {-1, 301, Integer.MIN_VALUE, Integer.MAX_VALUE};

    /** setInflow or setOutflow. */
    private interface Setter {
        int set(TurnEstimator x, int arm, int vehicles);
    }

    private CountsBoundaries() {
    }

    // ---- promise 1

    @Says({"Creates an estimator with a new junction of 4 arms.",
        "A new junction has the inflows and outflows 0; its weights are 0 for turns from an arm to itself, and 1 for"
            + " all other turns."})
    static void promise01FourArmsOfANewJunction(Check check) {
        check.same("arms()", new TurnEstimator().arms(), 4);
        newJunction(check, "a new object", new TurnEstimator(), 4);
        check.same("the last arm", new TurnEstimator().estimate(3, 0), 1.0);
        check.thrown("the arm behind it", IndexOutOfBoundsException.class, () -> new TurnEstimator().estimate(4, 0));
    }

    @Says("It is so at first,")
    static void promise01TheEstimateIsResetAtFirst(Check check) {
        TurnEstimator x = new TurnEstimator();
        check.same("rounds()", x.rounds(), 0);
        check.same("misfit()", x.misfit(), 3.0);
        check.same("busiestTurn()", x.busiestTurn(), 1);
        check.same("reset()", x.reset(), 0);
        check.same("the state behind reset()", Check.state(x), Check.state(new TurnEstimator()));
    }

    @Says("Creates an estimator with a new junction of 4 arms.")
    static void promise01ObjectsShareNothing(Check check) {
        String fresh = Check.state(new TurnEstimator());
        TurnEstimator early = new TurnEstimator();
        TurnEstimator changed = Junctions.busy(6);
        check.same("an object that was made before the changes", Check.state(early), fresh);
        String before = Check.state(changed);
        TurnEstimator late = new TurnEstimator();
        check.same("the changes, behind a new object", Check.state(changed), before);
        newJunction(check, "the new object", late, 4);
    }

    /** Looks at everything that is said of a new junction; it leaves the weights 0. */
    private static void newJunction(Check check, String what, TurnEstimator x, int n) {
        check.same(what + ": arms()", x.arms(), n);
        check.same(what + ": rounds()", x.rounds(), 0);
        check.same(what + ": imbalance()", x.imbalance(), 0);
        check.same(what + ": isPossible()", x.isPossible(), true);
        for (int from = 0; from < n; from++) {
            for (int to = 0; to < n; to++) {
                check.same(what + ": estimate " + from + " " + to, x.estimate(from, to), from == to ? 0.0 : 1.0);
            }
        }
        for (int from = 0; from < n; from++) {
            check.same(what + ": inflow " + from, x.setInflow(from, 0), 0);
            check.same(what + ": outflow " + from, x.setOutflow(from, 0), 0);
            for (int to = 0; to < n; to++) {
                check.same(what + ": weight " + from + " " + to, x.setWeight(from, to, 0), from == to ? 0 : 1);
            }
        }
    }

    // ---- promise 2

    @Says({"the number of arms", "Returns the previous number of arms."})
    static void promise02SmallestAndGreatest(Check check) {
        TurnEstimator x = new TurnEstimator();
        int previous = 4;
        for (int n : new int[] {3, 6, 3, 3, 4, 5, 6, 6, 5, 4}) {
            check.same("setArms(" + n + ")", x.setArms(n), previous);
            check.same("arms() behind it", x.arms(), n);
            previous = n;
        }
    }

    @Says({"Throws `IllegalArgumentException` if n is not 3 to 6", "A call that throws an exception changes nothing."})
    static void promise02FirstOnesOutside(Check check) {
        for (int n = 3; n <= 6; n++) {
            int before = n;
            for (int wrong : new int[] {2, 7, 1, 0, -1, -3, 8, Integer.MIN_VALUE, Integer.MAX_VALUE}) {
                check.refused("setArms(" + wrong + ") of " + n + " arms", () -> Junctions.busy(before),
                    IllegalArgumentException.class, x -> x.setArms(wrong));
            }
        }
    }

    @Says("A junction has 3 to 6 arms, numbered from 0.")
    static void promise02ArmsAreNumberedFromZero(Check check) {
        for (int n = 3; n <= 6; n++) {
            TurnEstimator x = Junctions.fresh(n);
            check.same("the first arm of " + n, x.estimate(0, n - 1), 1.0);
            check.same("the last arm of " + n, x.estimate(n - 1, 0), 1.0);
            for (int arm : Junctions.noArms(n)) {
                check.thrown(n + " arms, arm " + arm, IndexOutOfBoundsException.class, () -> x.estimate(arm, 0));
            }
        }
    }

    @Says("Begins with a new junction.")
    static void promise02NothingIsLeftOfTheOldJunction(Check check) {
        for (int first = 3; first <= 6; first++) {
            for (int second = 3; second <= 6; second++) {
                String what = "setArms(" + first + ") and setArms(" + second + ")";
                TurnEstimator x = Junctions.busy(first);
                x.setArms(second);
                check.same(what, Check.state(x), Check.state(Junctions.fresh(second)));
                newJunction(check, what, x, second);
                TurnEstimator back = Junctions.busy(first);
                back.setArms(second);
                back.setArms(first);
                newJunction(check, what + " and back", back, first);
            }
        }
    }

    // ---- promise 3

    @Says("Returns the number of arms.")
    static void promise03OnlySetArmsChangesIt(Check check) {
        check.same("of a new object", new TurnEstimator().arms(), 4);
        for (int n = 3; n <= 6; n++) {
            TurnEstimator x = Junctions.fresh(n);
            check.same("of " + n + " arms", x.arms(), n);
            x.setInflow(n - 1, 9999);
            x.setWeight(n - 1, n - 1, 99);
            x.scale(0);
            x.iterate(50);
            x.fit(0, 1);
            x.reset();
            x.digest();
            check.same("behind other calls", x.arms(), n);
            Check.thrownBy(() -> x.setArms(2));
            Check.thrownBy(() -> x.setArms(7));
            check.same("behind refused calls", x.arms(), n);
        }
    }

    // ---- promises 4 and 5

    @Says({"Sets the inflow of an arm.", "0 to 9999", "Returns the previous inflow.",
        "Each arm has an inflow (vehicles that enter the junction by it) and an outflow (vehicles that leave by it),"
            + " each 0 to 9999."})
    static void promise04SmallestAndGreatest(Check check) {
        smallestAndGreatest(check, TurnEstimator::setInflow);
        TurnEstimator x = Junctions.fresh(6);
        x.setInflow(5, 9999);
        check.same("imbalance()", x.imbalance(), 9999);
    }

    @Says("Throws `IllegalArgumentException` if vehicles is not 0 to 9999")
    static void promise04FirstOnesOutside(Check check) {
        countsOutside(check, TurnEstimator::setInflow);
    }

    @Says({"arm number", "Throws `IndexOutOfBoundsException` if the arm does not exist"})
    static void promise04ArmsThatDoNotExist(Check check) {
        countsOfNoArm(check, TurnEstimator::setInflow, 0);
        countsOfNoArm(check, TurnEstimator::setInflow, 9999);
    }

    @Says("If several exceptions apply, the one that is named first in the throws clause is thrown.")
    static void promise04TheArmIsNamedFirst(Check check) {
        for (int vehicles : NO_COUNTS) {
            countsOfNoArm(check, TurnEstimator::setInflow, vehicles);
        }
    }

    @Says("Sets the inflow of an arm.")
    static void promise04NoOtherCount(Check check) {
        noOtherCount(check, TurnEstimator::setInflow, TurnEstimator::setOutflow);
    }

    @Says("and it is reset by each call of setArms, setWeight, setInflow, setOutflow and scale that throws no exception.")
    static void promise04TheSameInflowResetsToo(Check check) {
        resets(check, x -> x.setInflow(2, 121));
        resets(check, x -> x.setInflow(0, 0));
    }

    @Says({"Sets the outflow of an arm.", "0 to 9999", "Returns the previous outflow.",
        "Each arm has an inflow (vehicles that enter the junction by it) and an outflow (vehicles that leave by it),"
            + " each 0 to 9999."})
    static void promise05SmallestAndGreatest(Check check) {
        smallestAndGreatest(check, TurnEstimator::setOutflow);
        TurnEstimator x = Junctions.fresh(6);
        x.setOutflow(5, 9999);
        check.same("imbalance()", x.imbalance(), -9999);
    }

    @Says("Throws `IllegalArgumentException` if vehicles is not 0 to 9999")
    static void promise05FirstOnesOutside(Check check) {
        countsOutside(check, TurnEstimator::setOutflow);
    }

    @Says({"arm number", "Throws `IndexOutOfBoundsException` if the arm does not exist"})
    static void promise05ArmsThatDoNotExist(Check check) {
        countsOfNoArm(check, TurnEstimator::setOutflow, 0);
        countsOfNoArm(check, TurnEstimator::setOutflow, 9999);
    }

    @Says("If several exceptions apply, the one that is named first in the throws clause is thrown.")
    static void promise05TheArmIsNamedFirst(Check check) {
        for (int vehicles : NO_COUNTS) {
            countsOfNoArm(check, TurnEstimator::setOutflow, vehicles);
        }
    }

    @Says("Sets the outflow of an arm.")
    static void promise05NoOtherCount(Check check) {
        noOtherCount(check, TurnEstimator::setOutflow, TurnEstimator::setInflow);
    }

    @Says("and it is reset by each call of setArms, setWeight, setInflow, setOutflow and scale that throws no exception.")
    static void promise05TheSameOutflowResetsToo(Check check) {
        resets(check, x -> x.setOutflow(3, 101));
        resets(check, x -> x.setOutflow(0, 0));
    }

    private static void smallestAndGreatest(Check check, Setter setter) {
        for (int n = 3; n <= 6; n++) {
            TurnEstimator x = Junctions.fresh(n);
            for (int arm = 0; arm < n; arm++) {
                String what = n + " arms, arm " + arm;
                check.same(what + ", 0 at first", setter.set(x, arm, 0), 0);
                check.same(what + ", 9999 behind 0", setter.set(x, arm, 9999), 0);
                check.same(what + ", 9999 again", setter.set(x, arm, 9999), 9999);
                check.same(what + ", 9998 behind it", setter.set(x, arm, 9998), 9999);
                check.same(what + ", 1 behind it", setter.set(x, arm, 1), 9998);
                check.same(what + ", 0 behind 1", setter.set(x, arm, 0), 1);
            }
        }
    }

    private static void countsOutside(Check check, Setter setter) {
        for (int n = 3; n <= 6; n += 3) {
            int arms = n;
            for (int arm = 0; arm < n; arm += n - 1) {
                int a = arm;
                for (int vehicles : NO_COUNTS) {
                    check.refused(n + " arms, arm " + arm + ", vehicles " + vehicles, () -> Junctions.busy(arms),
                        IllegalArgumentException.class, x -> setter.set(x, a, vehicles));
                }
            }
        }
    }

    private static void countsOfNoArm(Check check, Setter setter, int vehicles) {
        for (int n = 3; n <= 6; n++) {
            int arms = n;
            for (int arm : Junctions.noArms(n)) {
                check.refused(n + " arms, arm " + arm + ", vehicles " + vehicles, () -> Junctions.busy(arms),
                    IndexOutOfBoundsException.class, x -> setter.set(x, arm, vehicles));
            }
        }
    }

    private static void noOtherCount(Check check, Setter setter, Setter other) {
        TurnEstimator x = Junctions.fresh(6);
        for (int arm = 0; arm < 6; arm++) {
            check.same("arm " + arm + " alone", setter.set(x, arm, 9999 - arm), 0);
        }
        for (int arm = 0; arm < 6; arm++) {
            check.same("the other count of arm " + arm, other.set(x, arm, 1), 0);
            check.same("the count of arm " + arm, setter.set(x, arm, 0), 9999 - arm);
        }
    }

    /** The junction busy(4) has the inflows 101, 111, 121, 131 and the outflows 131, 121, 111, 101. */
    private static void resets(Check check, Check.Use use) {
        TurnEstimator x = Junctions.busy(4);
        use.on(x);
        check.same("rounds()", x.rounds(), 0);
        check.same("a weight of the estimate", x.estimate(3, 3), 56.0);
        check.same("a barred turn of it", x.estimate(1, 0), 0.0);
        check.same("reset() finds no round", x.reset(), 0);
    }

    // ---- promise 6

    @Says({"Sets the weight of a turn.", "0 to 99", "Returns the previous weight.", "Each turn has a weight, 0 to 99.",
        "A turn leads from an arm to an arm (also to the same one)."})
    static void promise06SmallestAndGreatest(Check check) {
        for (int n = 3; n <= 6; n++) {
            for (int from = 0; from < n; from++) {
                TurnEstimator x = Junctions.fresh(n);
                for (int to = 0; to < n; to++) {
                    String what = n + " arms, " + from + " " + to;
                    check.same(what + ", 99 at first", x.setWeight(from, to, 99), from == to ? 0 : 1);
                    check.same(what + ", its estimate", x.estimate(from, to), 99.0);
                    check.same(what + ", 99 again", x.setWeight(from, to, 99), 99);
                    check.same(what + ", 0 behind 99", x.setWeight(from, to, 0), 99);
                    check.same(what + ", its estimate", x.estimate(from, to), 0.0);
                    check.same(what + ", 0 again", x.setWeight(from, to, 0), 0);
                    check.same(what + ", 98 behind 0", x.setWeight(from, to, 98), 0);
                    check.same(what + ", 1 behind 98", x.setWeight(from, to, 1), 98);
                }
            }
        }
    }

    @Says("Throws `IllegalArgumentException` if weight is not 0 to 99")
    static void promise06FirstOnesOutside(Check check) {
        for (int n = 3; n <= 6; n += 3) {
            int arms = n;
            for (int weight : NO_WEIGHTS) {
                check.refused(n + " arms, the first turn, weight " + weight, () -> Junctions.busy(arms),
                    IllegalArgumentException.class, x -> x.setWeight(0, 0, weight));
                check.refused(n + " arms, the last turn, weight " + weight, () -> Junctions.busy(arms),
                    IllegalArgumentException.class, x -> x.setWeight(arms - 1, arms - 1, weight));
                check.refused(n + " arms, a barred turn, weight " + weight, () -> Junctions.busy(arms),
                    IllegalArgumentException.class, x -> x.setWeight(1, 0, weight));
            }
        }
    }

    @Says({"arm number", "Throws `IndexOutOfBoundsException` if one of the arms does not exist"})
    static void promise06ArmsThatDoNotExist(Check check) {
        weightsOfNoArm(check, 0);
        weightsOfNoArm(check, 99);
    }

    @Says("If several exceptions apply, the one that is named first in the throws clause is thrown.")
    static void promise06TheArmIsNamedFirst(Check check) {
        for (int weight : NO_WEIGHTS) {
            weightsOfNoArm(check, weight);
        }
    }

    private static void weightsOfNoArm(Check check, int weight) {
        for (int n = 3; n <= 6; n++) {
            int arms = n;
            for (int arm : Junctions.noArms(n)) {
                String what = n + " arms, weight " + weight + ", arm " + arm;
                check.refused(what + " from", () -> Junctions.busy(arms), IndexOutOfBoundsException.class,
                    x -> x.setWeight(arm, arms - 1, weight));
                check.refused(what + " to", () -> Junctions.busy(arms), IndexOutOfBoundsException.class,
                    x -> x.setWeight(1, arm, weight));
                check.refused(what + " from and to", () -> Junctions.busy(arms), IndexOutOfBoundsException.class,
                    x -> x.setWeight(arm, arm, weight));
            }
        }
    }

    @Says("A turn with the weight 0 is barred.")
    static void promise06WeightZeroBars(Check check) {
        TurnEstimator x = Junctions.fresh(3);
        x.setInflow(2, 7);
        x.setOutflow(0, 7);
        check.same("weight 1: isPossible()", x.isPossible(), true);
        x.setWeight(2, 0, 0);
        check.same("weight 0: isPossible()", x.isPossible(), false);
        check.same("weight 0: excess(4)", x.excess(4), 7);
        check.same("weight 0: rounded(2, 0)", x.rounded(2, 0), 0);
        x.setWeight(2, 0, 99);
        check.same("weight 99: isPossible()", x.isPossible(), true);
        check.same("weight 99: excess(4)", x.excess(4), 0);
        check.same("weight 99: possible(2, 0)", x.possible(2, 0), 7);
        x.setWeight(2, 0, 0);
        x.setWeight(2, 0, 0);
        check.same("weight 0 twice: excess(4)", x.excess(4), 7);
        x.setWeight(2, 0, 1);
        check.same("weight 1 again: excess(4)", x.excess(4), 0);
    }

    @Says({"A turn leads from an arm to an arm (also to the same one).", "A turn with the weight 0 is barred."})
    static void promise06TurnsBack(Check check) {
        for (int n = 3; n <= 6; n++) {
            for (int arm = 0; arm < n; arm++) {
                String what = n + " arms, arm " + arm;
                TurnEstimator x = Junctions.fresh(n);
                x.setInflow(arm, 5);
                x.setOutflow(arm, 5);
                check.same(what + ", barred at first", x.excess(1 << arm), 5);
                check.same(what + ", weight 1", x.setWeight(arm, arm, 1), 0);
                check.same(what + ", open", x.excess(1 << arm), 0);
                check.same(what + ", possible", x.possible(arm, arm), 5);
                check.same(what + ", weight 0", x.setWeight(arm, arm, 0), 1);
                check.same(what + ", barred again", x.excess(1 << arm), 5);
            }
        }
    }

    @Says("and it is reset by each call of setArms, setWeight, setInflow, setOutflow and scale that throws no exception.")
    static void promise06TheSameWeightResetsToo(Check check) {
        resets(check, x -> x.setWeight(3, 3, 56));
        resets(check, x -> x.setWeight(1, 0, 0));
    }

    // ---- promise 7

    @Says({"0 to 300", "Returns the sum of all inflows afterwards.",
        "Multiplies all inflows and outflows by a percentage: each becomes (count * percent + 50) / 100, rounded down."})
    static void promise07SmallestAndGreatest(Check check) {
        for (int n = 3; n <= 6; n++) {
            TurnEstimator x = Junctions.fresh(n);
            check.same("all counts are 0, scale(300)", x.scale(300), 0);
            check.same("all counts are 0, scale(0)", x.scale(0), 0);
            for (int arm = 0; arm < n; arm++) {
                x.setInflow(arm, 3333);
                x.setOutflow(arm, 3333 - arm);
            }
            check.same(n + " arms, scale(300)", x.scale(300), n * 9999);
            check.same("the outflows", x.imbalance(), 3 * n * (n - 1) / 2);
            check.same("the last outflow", x.setOutflow(n - 1, 9999), 9999 - 3 * (n - 1));
            check.same(n + " arms, scale(100)", x.scale(100), n * 9999);
            check.same(n + " arms, scale(0)", x.scale(0), 0);
            for (int arm = 0; arm < n; arm++) {
                check.same("inflow " + arm + " behind scale(0)", x.setInflow(arm, 0), 0);
                check.same("outflow " + arm + " behind scale(0)", x.setOutflow(arm, 0), 0);
            }
        }
    }

    @Says("Multiplies all inflows and outflows by a percentage: each becomes (count * percent + 50) / 100, rounded down.")
    static void promise07HalvesAreRoundedUp(Check check) {
        int[][] rows = {{1, 49, 0}, {1, 50, 1}, {1, 149, 1}, {1, 150, 2}, {3, 50, 2}, {3, 49, 1}, {49, 1, 0},
            {50, 1, 1}, {149, 1, 1}, {150, 1, 2}, {9999, 1, 100}, {9999, 50, 5000}, {9999, 99, 9899}, {9999, 100, 9999},
            {0, 300, 0}, {1, 300, 3}, {1, 0, 0}, {33, 101, 33}, {50, 101, 51}, {49, 101, 49}, {9998, 25, 2500}};
        for (int[] row : rows) {
            TurnEstimator x = new TurnEstimator();
            x.setInflow(3, row[0]);
            x.setOutflow(0, row[0]);
            check.same("scale(" + row[1] + ") of " + row[0], x.scale(row[1]), row[2]);
            check.same("the inflow behind it", x.setInflow(3, 0), row[2]);
            check.same("the outflow behind it", x.setOutflow(0, 0), row[2]);
        }
    }

    @Says("Throws `IllegalArgumentException` if percent is not 0 to 300")
    static void promise07FirstOnesOutside(Check check) {
        for (int percent : NO_PERCENTS) {
            for (int n = 3; n <= 6; n++) {
                int arms = n;
                check.refused(n + " arms, scale(" + percent + ")", () -> Junctions.busy(arms),
                    IllegalArgumentException.class, x -> x.scale(percent));
            }
            check.refused("all counts are 0, scale(" + percent + ")", TurnEstimator::new,
                IllegalArgumentException.class, x -> x.scale(percent));
        }
    }

    @Says("Throws `IllegalStateException` if a count would become greater than 9999")
    static void promise07TheGreatestCountAndOneMore(Check check) {
        for (int n = 3; n <= 6; n++) {
            for (int arm = 0; arm < n; arm++) {
                for (int[] row : new int[][] {{7246, 138}, {3333, 300}, {6666, 150}, {9999, 100}}) {
                    becomes9999(check, n, arm, row[0], row[1]);
                }
                // 5714 * 175 + 50 is 1000000: one vehicle too many by the half that is rounded up.
                for (int[] row : new int[][] {{5714, 175}, {3334, 300}, {6667, 150}, {9999, 101}}) {
                    becomesTooGreat(check, n, arm, row[0], row[1]);
                }
            }
        }
    }

    private static void becomes9999(Check check, int n, int arm, int count, int percent) {
        String what = n + " arms, arm " + arm + ", " + count + " by " + percent;
        TurnEstimator x = Junctions.fresh(n);
        x.setInflow(arm, count);
        x.setOutflow(arm, count);
        check.same(what, x.scale(percent), 9999);
        check.same(what + ", the outflow", x.setOutflow(arm, 0), 9999);
    }

    private static void becomesTooGreat(Check check, int n, int arm, int count, int percent) {
        String what = n + " arms, arm " + arm + ", " + count + " by " + percent;
        Check.Setup inflow = () -> {
            TurnEstimator x = Junctions.busy(n);
            x.setInflow(arm, count);
            x.iterate(3);
            return x;
        };
        Check.Setup outflow = () -> {
            TurnEstimator x = Junctions.busy(n);
            x.setOutflow(arm, count);
            x.iterate(3);
            return x;
        };
        check.refused(what + ", the inflow", inflow, IllegalStateException.class, x -> x.scale(percent));
        check.refused(what + ", the outflow", outflow, IllegalStateException.class, x -> x.scale(percent));
    }

    @Says("If several exceptions apply, the one that is named first in the throws clause is thrown.")
    static void promise07ThePercentageIsNamedFirst(Check check) {
        Check.Setup full = () -> {
            TurnEstimator x = Junctions.busy(4);
            x.setInflow(0, 9999);
            x.setOutflow(3, 9999);
            x.iterate(1);
            return x;
        };
        for (int percent : NO_PERCENTS) {
            check.refused("scale(" + percent + ")", full, IllegalArgumentException.class, x -> x.scale(percent));
        }
    }

    @Says("Throws `IllegalStateException` if a count would become greater than 9999")
    static void promise07CountsOfArmsThatAreGone(Check check) {
        TurnEstimator x = Junctions.fresh(6);
        x.setInflow(5, 9999);
        x.setOutflow(4, 9999);
        x.setArms(4);
        x.setInflow(0, 1);
        check.same("scale(300)", x.scale(300), 3);
    }

    @Says("and it is reset by each call of setArms, setWeight, setInflow, setOutflow and scale that throws no exception.")
    static void promise07ByHundredResetsToo(Check check) {
        resets(check, x -> x.scale(100));
        resets(check, x -> x.scale(0));
        resets(check, x -> x.scale(300));
    }

    // ---- promise 8

    @Says({"Returns the sum of all inflows minus the sum of all outflows.", "Returns the difference."})
    static void promise08LeastAndGreatest(Check check) {
        for (int n = 3; n <= 6; n++) {
            TurnEstimator x = Junctions.fresh(n);
            check.same("all counts are 0", x.imbalance(), 0);
            for (int arm = 0; arm < n; arm++) {
                x.setInflow(arm, 9999);
                check.same("inflows alone", x.imbalance(), 9999 * (arm + 1));
            }
            for (int arm = 0; arm < n; arm++) {
                x.setOutflow(arm, 9999);
                check.same("all inflows, some outflows", x.imbalance(), 9999 * (n - 1 - arm));
            }
            for (int arm = 0; arm < n; arm++) {
                x.setInflow(arm, 0);
                check.same("all outflows, some inflows", x.imbalance(), -9999 * (arm + 1));
            }
        }
    }

    @Says("Returns the sum of all inflows minus the sum of all outflows.")
    static void promise08OnlyCountsMatter(Check check) {
        TurnEstimator x = Junctions.barred(3);
        x.setInflow(0, 5);
        x.setOutflow(0, 6);
        check.same("all turns are barred", x.imbalance(), -1);
        x.iterate(50);
        check.same("behind rounds", x.imbalance(), -1);
        x.setArms(3);
        check.same("of a new junction", x.imbalance(), 0);
    }
}
