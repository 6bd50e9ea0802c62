/** The boundary cases of promises 9, 10, 11 and 24: possible counts and crowded sets. */
final class PossibleBoundaries {
    private static final int NONE = TurnEstimator.NONE;

    private PossibleBoundaries() {
    }

    // ---- promise 9

    @Says({"Tells whether the counts are possible.", "Returns true if they are possible.",
        "The counts are possible if there is a table of whole numbers in which, for each arm, the turns from it sum to"
            + " its inflow, and the turns to it sum to its outflow."})
    static void promise09AllCountsAreZero(Check check) {
        for (int n = 3; n <= 6; n++) {
            check.same(n + " arms", Junctions.fresh(n).isPossible(), true);
            check.same(n + " arms, all weights are 0", Junctions.barred(n).isPossible(), true);
        }
    }

    @Says("Tells whether the counts are possible.")
    static void promise09AllWeightsAreZero(Check check) {
        for (int n = 3; n <= 6; n++) {
            TurnEstimator x = Junctions.barred(n);
            x.setInflow(n - 1, 1);
            x.setOutflow(0, 1);
            check.same(n + " arms, a vehicle that can make no turn", x.isPossible(), false);
            x.setWeight(n - 1, 0, 1);
            check.same(n + " arms, with its turn", x.isPossible(), true);
        }
    }

    @Says("(The counts are possible just if the sums of all inflows and of all outflows are equal, and no set is crowded.)")
    static void promise09OneVehicleTooMany(Check check) {
        for (int n = 3; n <= 6; n++) {
            TurnEstimator x = Junctions.busy(n);
            check.same("equal sums", x.isPossible(), true);
            x.setInflow(0, 102);
            check.same("one more enters", x.isPossible(), false);
            x.setInflow(0, 101);
            x.setOutflow(n - 1, 102);
            check.same("one more leaves", x.isPossible(), false);
            check.same("though no set is crowded", x.crowdedSet(), NONE);
            x.setInflow(0, 102);
            check.same("it is the same one", x.isPossible(), true);
            x.setInflow(0, 101);
            x.setOutflow(n - 1, 100);
            check.same("one less leaves", x.isPossible(), false);
        }
    }

    @Says("(The counts are possible just if the sums of all inflows and of all outflows are equal, and no set is crowded.)")
    static void promise09EqualSumsDoNotSuffice(Check check) {
        TurnEstimator x = Junctions.fresh(3);
        Junctions.counts(x, new int[] {5, 2, 3}, new int[] {5, 2, 3});
        check.same("arm 0 has just as much room as vehicles", x.isPossible(), true);
        Junctions.counts(x, new int[] {6, 2, 2}, new int[] {5, 2, 3});
        check.same("and one too little", x.isPossible(), false);
        check.same("with equal sums", x.imbalance(), 0);
        x.setWeight(0, 0, 1);
        check.same("but for a turn back", x.isPossible(), true);
    }

    @Says("Tells whether the counts are possible.")
    static void promise09GreatestCounts(Check check) {
        for (int n = 3; n <= 6; n++) {
            TurnEstimator x = full(n);
            check.same(n + " arms", x.isPossible(), true);
            x.setOutflow(n - 1, 9998);
            check.same(n + " arms, one less leaves", x.isPossible(), false);
        }
    }

    @Says("Tells whether the counts are possible.")
    static void promise09RoundsDoNotMatter(Check check) {
        TurnEstimator x = Junctions.fresh(3);
        x.setInflow(0, 1);
        x.setOutflow(1, 1);
        x.iterate(1);
        check.same("possible, behind a round", x.isPossible(), true);
        x.setOutflow(1, 0);
        x.iterate(1);
        check.same("not possible, all estimates are 0.0", x.isPossible(), false);
    }

    private static TurnEstimator full(int n) {
        TurnEstimator x = Junctions.fresh(n);
        for (int arm = 0; arm < n; arm++) {
            x.setInflow(arm, 9999);
            x.setOutflow(arm, 9999);
        }
        return x;
    }

    // ---- promise 10

    @Says({"Returns a crowded set of arms.",
        "Returns the crowded set with the least bit mask (bit a for arm a); NONE if no set is crowded."})
    static void promise10NoneIfNoSetIsCrowded(Check check) {
        for (int n = 3; n <= 6; n++) {
            check.same(n + " arms, all counts are 0", Junctions.fresh(n).crowdedSet(), -1);
            check.same(n + " arms, all weights are 0 too", Junctions.barred(n).crowdedSet(), -1);
            check.same(n + " arms, the greatest counts", full(n).crowdedSet(), -1);
            TurnEstimator x = Junctions.barred(n);
            x.setOutflow(0, 9999);
            check.same(n + " arms, nobody enters", x.crowdedSet(), -1);
        }
    }

    @Says("A set of arms is crowded if the sum of their inflows is greater than the sum of the outflows of all arms to"
        + " which a turn leads, from an arm of the set, that is not barred.")
    static void promise10EqualSumsAreNotCrowded(Check check) {
        TurnEstimator x = Junctions.fresh(3);
        Junctions.counts(x, new int[] {5, 2, 3}, new int[] {5, 2, 3});
        check.same("5 vehicles to an outflow of 5", x.crowdedSet(), -1);
        x.setInflow(0, 6);
        check.same("6 vehicles", x.crowdedSet(), 1);
        x.setOutflow(1, 3);
        check.same("and an outflow of 6", x.crowdedSet(), -1);
        x.setWeight(0, 1, 0);
        check.same("a turn that is barred", x.crowdedSet(), 1);
        x.setWeight(0, 1, 99);
        check.same("and is open again", x.crowdedSet(), -1);
        x.setWeight(0, 2, 0);
        x.setOutflow(1, 6);
        check.same("an outflow counts for a set that leads there", x.crowdedSet(), -1);
        x.setOutflow(1, 5);
        check.same("others do not", x.crowdedSet(), 1);
    }

    @Says("A set of arms is crowded if the sum of their inflows is greater than the sum of the outflows of all arms to"
        + " which a turn leads, from an arm of the set, that is not barred.")
    static void promise10AnOutflowCountsOnce(Check check) {
        TurnEstimator x = Junctions.barred(4);
        x.setWeight(0, 3, 1);
        x.setWeight(1, 3, 1);
        x.setInflow(0, 4);
        x.setInflow(1, 4);
        x.setOutflow(3, 8);
        check.same("two arms share an outflow", x.crowdedSet(), -1);
        x.setOutflow(3, 7);
        check.same("that is too small for both", x.crowdedSet(), 3);
    }

    @Says("Returns the crowded set with the least bit mask (bit a for arm a); NONE if no set is crowded.")
    static void promise10TheLeastMask(Check check) {
        TurnEstimator x = Junctions.barred(4);
        x.setWeight(0, 3, 1);
        x.setWeight(1, 3, 1);
        x.setInflow(0, 3);
        x.setInflow(1, 3);
        x.setInflow(2, 1);
        x.setOutflow(3, 5);
        check.same("the mask 3 of two arms is less than the mask 4 of one", x.crowdedSet(), 3);
        x.setInflow(1, 2);
        check.same("arm 2", x.crowdedSet(), 4);
        x.setInflow(1, 6);
        check.same("arm 1", x.crowdedSet(), 2);
        x.setInflow(0, 6);
        check.same("arm 0", x.crowdedSet(), 1);
    }

    @Says("Returns the crowded set with the least bit mask (bit a for arm a); NONE if no set is crowded.")
    static void promise10SmallestAndGreatestMask(Check check) {
        for (int n = 3; n <= 6; n++) {
            TurnEstimator x = Junctions.fresh(n);
            for (int arm = 0; arm < n; arm++) {
                x.setInflow(arm, 1);
                x.setOutflow(arm, arm == 0 ? 0 : 1);
            }
            check.same(n + " arms, only all together", x.crowdedSet(), (1 << n) - 1);
            for (int arm = 0; arm < n; arm++) {
                TurnEstimator y = Junctions.barred(n);
                y.setInflow(arm, 1);
                check.same(n + " arms, all weights are 0, arm " + arm, y.crowdedSet(), 1 << arm);
            }
        }
    }

    // ---- promise 11

    @Says({"Returns by how many vehicles a set of arms is crowded.", "the set as a bit mask, bit a for arm a",
        "Returns the sum of the inflows of its arms minus the sum of the outflows of all arms to which a turn that is not"
            + " barred leads from one of them (negative or 0 if the set is not crowded)."})
    static void promise11EverySetOfThreeArms(Check check) {
        TurnEstimator x = Junctions.fresh(3);
        Junctions.counts(x, new int[] {10, 20, 40}, new int[] {100, 200, 400});
        int[] due = {0, 10 - 600, 20 - 500, 30 - 700, 40 - 300, 50 - 700, 60 - 700, 70 - 700};
        for (int set = 0; set < 8; set++) {
            check.same("excess(" + set + ")", x.excess(set), due[set]);
        }
        x.setWeight(0, 1, 0);
        x.setWeight(0, 2, 0);
        check.same("all turns from arm 0 are barred", x.excess(1), 10);
        check.same("of two arms one has turns", x.excess(3), 30 - 500);
        x.setWeight(0, 0, 1);
        check.same("a turn back", x.excess(1), 10 - 100);
    }

    @Says("the set as a bit mask, bit a for arm a")
    static void promise11TheEmptySetAndAllArms(Check check) {
        for (int n = 3; n <= 6; n++) {
            int all = (1 << n) - 1;
            check.same(n + " arms, nobody, no arm", Junctions.fresh(n).excess(0), 0);
            check.same(n + " arms, nobody, all arms", Junctions.fresh(n).excess(all), 0);
            TurnEstimator x = full(n);
            check.same(n + " arms, no arm", x.excess(0), 0);
            check.same(n + " arms, all arms", x.excess(all), 0);
            check.same(n + " arms, the last arm", x.excess(1 << (n - 1)), 9999 - 9999 * (n - 1));
            TurnEstimator y = Junctions.barred(n);
            for (int arm = 0; arm < n; arm++) {
                y.setInflow(arm, 9999);
                y.setOutflow(arm, 9999);
            }
            check.same(n + " arms, all weights are 0, no arm", y.excess(0), 0);
            check.same(n + " arms, all weights are 0, all arms", y.excess(all), 9999 * n);
        }
    }

    @Says("Throws `IllegalArgumentException` if arms is negative, or contains an arm that does not exist")
    static void promise11SetsThatAreRefused(Check check) {
        for (int n = 3; n <= 6; n++) {
            int arms = n;
            int first = 1 << n;
            int[] wrong = {-1, first, first + 1, 2 * first - 1, 2 * first, 1 << 30, Integer.MAX_VALUE,
                Integer.MIN_VALUE, Integer.MIN_VALUE + 1, -first};
            for (int set : wrong) {
                check.refused(n + " arms, excess(" + set + ")", () -> Junctions.busy(arms),
                    IllegalArgumentException.class, x -> x.excess(set));
            }
        }
    }

    // ---- promise 24

    @Says("A table is a number of vehicles, 0 or more, for each turn, 0 for barred turns.")
    static void promise24AllCountsAreZero(Check check) {
        for (int n = 3; n <= 6; n++) {
            table(check, n + " arms", Junctions.fresh(n), new int[n * n]);
            table(check, n + " arms, all weights are 0", Junctions.barred(n), new int[n * n]);
        }
    }

    @Says("Returns the number of this turn in that table; NONE if the counts are not possible.")
    static void promise24NoneIfNotPossible(Check check) {
        for (int n = 3; n <= 6; n++) {
            int[] none = new int[n * n];
            java.util.Arrays.fill(none, -1);
            TurnEstimator x = Junctions.fresh(n);
            x.setInflow(0, 1);
            table(check, n + " arms, one enters", x, none);
            x.setOutflow(0, 1);
            table(check, n + " arms, a crowded set", x, none);
            x.setInflow(0, 0);
            table(check, n + " arms, one leaves", x, none);
        }
        TurnEstimator y = Junctions.barred(3);
        y.setInflow(1, 9999);
        y.setOutflow(2, 9999);
        table(check, "all weights are 0", y, new int[] {-1, -1, -1, -1, -1, -1, -1, -1, -1});
        y.setWeight(1, 2, 1);
        table(check, "all but one", y, new int[] {0, 0, 0, 0, 0, 9999, 0, 0, 0});
    }

    @Says("Finds a possible table of whole numbers: of all tables that show that the counts are possible, the one that is"
        + " lexicographically greatest, when the turns are ordered by the arm from which they lead, then by the arm to"
        + " which they lead.")
    static void promise24GreatestCounts(Check check) {
        // Who goes where, when every arm sends all its vehicles one way: the first arms choose first.
        int[][] ways = {{1, 2, 0}, {1, 0, 3, 2}, {1, 0, 3, 4, 2}, {1, 0, 3, 2, 5, 4}};
        for (int[] way : ways) {
            int n = way.length;
            int[] due = new int[n * n];
            int[] back = new int[n * n];
            TurnEstimator x = full(n);
            TurnEstimator y = full(n);
            for (int arm = 0; arm < n; arm++) {
                due[arm * n + way[arm]] = 9999;
                back[arm * n + arm] = 9999;
                y.setWeight(arm, arm, 1);
            }
            table(check, n + " arms", x, due);
            table(check, n + " arms, turns back", y, back);
        }
    }

    @Says("Finds a possible table of whole numbers: of all tables that show that the counts are possible, the one that is"
        + " lexicographically greatest, when the turns are ordered by the arm from which they lead, then by the arm to"
        + " which they lead.")
    static void promise24LexicographicallyGreatest(Check check) {
        TurnEstimator x = Junctions.fresh(3);
        x.setWeight(0, 0, 1);
        x.setWeight(1, 1, 1);
        Junctions.counts(x, new int[] {5, 5, 5}, new int[] {6, 4, 5});
        // Arm 2 cannot lead to itself, so arms 0 and 1 must leave 5 of the first two outflows.
        table(check, "all but one turn", x, new int[] {5, 0, 0, 0, 0, 5, 1, 4, 0});
        x.setWeight(1, 2, 0);
        table(check, "arm 1 cannot lead to arm 2", x, new int[] {0, 0, 5, 5, 0, 0, 1, 4, 0});
        x.setWeight(2, 1, 0);
        Junctions.counts(x, new int[] {5, 5, 5}, new int[] {7, 5, 3});
        table(check, "arm 2 leads to arm 0 alone", x, new int[] {2, 0, 3, 0, 5, 0, 5, 0, 0});
        x.setWeight(0, 2, 99);
        table(check, "weights but 0 do not matter", x, new int[] {2, 0, 3, 0, 5, 0, 5, 0, 0});
        x.iterate(7);
        table(check, "nor do rounds", x, new int[] {2, 0, 3, 0, 5, 0, 5, 0, 0});
    }

    @Says({"arm number", "Throws `IndexOutOfBoundsException` if one of the arms does not exist"})
    static void promise24ArmsThatDoNotExist(Check check) {
        Check.Setup impossible = () -> {
            TurnEstimator x = Junctions.busy(4);
            x.setInflow(0, 9999);
            x.iterate(1);
            return x;
        };
        for (int n = 3; n <= 6; n++) {
            int arms = n;
            for (int arm : Junctions.noArms(n)) {
                String what = n + " arms, arm " + arm;
                Class<?> due = IndexOutOfBoundsException.class;
                check.refused(what + " from", () -> Junctions.busy(arms), due, x -> x.possible(arm, 0));
                check.refused(what + " to", () -> Junctions.busy(arms), due, x -> x.possible(1, arm));
                check.refused(what + " from and to", () -> Junctions.busy(arms), due, x -> x.possible(arm, arm));
            }
        }
        for (int arm : Junctions.noArms(4)) {
            Class<?> due = IndexOutOfBoundsException.class;
            check.refused("not possible, from " + arm, impossible, due, x -> x.possible(arm, 0));
            check.refused("not possible, to " + arm, impossible, due, x -> x.possible(0, arm));
        }
    }

    private static void table(Check check, String what, TurnEstimator x, int[] due) {
        int n = x.arms();
        for (int from = 0; from < n; from++) {
            for (int to = 0; to < n; to++) {
                check.same(what + ", possible(" + from + ", " + to + ")", x.possible(from, to), due[from * n + to]);
            }
        }
    }
}
