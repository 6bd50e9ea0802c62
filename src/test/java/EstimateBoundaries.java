/** The boundary cases of promises 12 to 21: rounds, fits and what is asked of the estimate. */
final class EstimateBoundaries {
    private static final int[] NO_ROUNDS = {0, 51, -1, 100, Integer.MIN_VALUE, Integer.MAX_VALUE};
    private static final int[] NO_THOUSANDTHS = {-1, 100001, Integer.MIN_VALUE, Integer.MAX_VALUE};
    private static final int[] NO_LIMITS = {0, 101, -1, Integer.MIN_VALUE, Integer.MAX_VALUE};

    private EstimateBoundaries() {
    }

    /** Arms 0 and 1 send one vehicle each to arm 2, where one leaves: the misfit 0.5 remains for ever. */
    private static TurnEstimator contradictory() {
        TurnEstimator x = Junctions.barred(3);
        x.setWeight(0, 2, 1);
        x.setWeight(1, 2, 1);
        x.setInflow(0, 1);
        x.setInflow(1, 1);
        x.setOutflow(2, 1);
        return x;
    }

    /**
     * Arm 0 sends a 496th of its one vehicle to arm 5, where one of about 49996 vehicles leaves: the
     * estimate of that turn, and with it the row sum, is about 4e-8, near the least that there can be.
     */
    static TurnEstimator tinyRowSum() {
        TurnEstimator x = Junctions.barred(6);
        Junctions.weightsFrom(x, 0, 99, 99, 99, 99, 99, 1);
        x.setInflow(0, 1);
        for (int from = 1; from < 6; from++) {
            x.setWeight(from, 5, 1);
            x.setInflow(from, 9999);
        }
        x.setOutflow(5, 1);
        x.iterate(1);
        return x;
    }

    private static void allEstimates(Check check, String what, TurnEstimator x, double due) {
        int n = x.arms();
        for (int from = 0; from < n; from++) {
            for (int to = 0; to < n; to++) {
                check.same(what + ", estimate(" + from + ", " + to + ")", x.estimate(from, to), due);
            }
        }
    }

    // ---- promise 12

    @Says({"Carries out rounds.", "the number of rounds", "Returns the number of rounds since the estimate was reset."})
    static void promise12SmallestAndGreatest(Check check) {
        for (int n = 3; n <= 6; n++) {
            TurnEstimator x = Junctions.busy(n);
            TurnEstimator y = Junctions.busy(n);
            check.same("iterate(50) behind two rounds", x.iterate(50), 52);
            check.same("iterate(1)", x.iterate(1), 53);
            for (int k = 3; k <= 53; k++) {
                check.same("one by one", y.iterate(1), k);
            }
            check.same("together and one by one", Check.state(x), Check.state(y));
            check.same("a round changes the estimate", Junctions.busy(n).estimate(0, 0) == y.estimate(0, 0), false);
        }
    }

    @Says("Throws `IllegalArgumentException` if n is not 1 to 50")
    static void promise12FirstOnesOutside(Check check) {
        for (int rounds : NO_ROUNDS) {
            for (int n = 3; n <= 6; n++) {
                int arms = n;
                check.refused(n + " arms, iterate(" + rounds + ")", () -> Junctions.busy(arms),
                    IllegalArgumentException.class, x -> x.iterate(rounds));
            }
            check.refused("a new object, iterate(" + rounds + ")", TurnEstimator::new,
                IllegalArgumentException.class, x -> x.iterate(rounds));
        }
    }

    @Says("If the sum is not greater than 0.0, the step does nothing.)")
    static void promise12AllWeightsAreZero(Check check) {
        for (int n = 3; n <= 6; n++) {
            TurnEstimator x = Junctions.barred(n);
            for (int arm = 0; arm < n; arm++) {
                x.setInflow(arm, 9999);
                x.setOutflow(arm, 9999);
            }
            check.same("iterate(50)", x.iterate(50), 50);
            allEstimates(check, n + " arms, all weights are 0", x, 0.0);
            check.same("misfit()", x.misfit(), 9999.0);
        }
    }

    @Says("If the sum is not greater than 0.0, the step does nothing.)")
    static void promise12AllCountsAreZero(Check check) {
        for (int n = 3; n <= 6; n++) {
            TurnEstimator x = Junctions.fresh(n);
            check.same("iterate(1)", x.iterate(1), 1);
            allEstimates(check, n + " arms, all counts are 0", x, 0.0);
            check.same("iterate(50)", x.iterate(50), 51);
            allEstimates(check, n + " arms, 50 rounds more", x, 0.0);
        }
    }

    @Says("If the sum is not greater than 0.0, the step does nothing.)")
    static void promise12ARowAndAColumnWithoutTurns(Check check) {
        TurnEstimator x = Junctions.barred(3);
        Junctions.weightsFrom(x, 0, 1, 1, 0);
        Junctions.weightsFrom(x, 2, 1, 1, 0);
        Junctions.counts(x, new int[] {4, 10, 8}, new int[] {6, 6, 7});
        for (int k = 1; k <= 3; k++) {
            check.same("iterate(1)", x.iterate(1), k);
            double[] due = {2.0, 2.0, 0.0, 0.0, 0.0, 0.0, 4.0, 4.0, 0.0};
            for (int turn = 0; turn < 9; turn++) {
                check.same("estimate of turn " + turn, x.estimate(turn / 3, turn % 3), due[turn]);
            }
        }
    }

    @Says("If the sum is not greater than 0.0, the step does nothing.)")
    static void promise12SumsThatAreTiny(Check check) {
        TurnEstimator x = tinyRowSum();
        double tiny = x.sum(0, false);
        check.same("a row sum", tiny > 0.0 && tiny < 1e-7, true);
        x.setOutflow(5, 0);
        x.setOutflow(4, 9999);
        x.setWeight(0, 4, 1);
        x.iterate(1);
        check.near("a column that gets 9999 of a 398th", x.estimate(0, 4), 9999.0, 1e-9);
        TurnEstimator y = tinyRowSum();
        y.iterate(1);
        double row = tiny * (1 / tiny);
        double column = 0.0 + row;
        for (int from = 1; from < 6; from++) {
            column += tinyRowSum().estimate(from, 5) * (9999 / tinyRowSum().sum(from, false));
        }
        check.same("the row step of a tiny sum", y.estimate(0, 5), row * (1 / column));
    }

    @Says({"A row step multiplies the estimates of all turns from an arm by its row factor: the inflow divided by the row"
        + " sum.", "A column step multiplies the estimates of all turns to an arm by its column factor: the outflow"
        + " divided by the column sum."})
    static void promise12AnInflowAndAnOutflowOfZero(Check check) {
        TurnEstimator x = Junctions.fresh(3);
        Junctions.counts(x, new int[] {8, 0, 8}, new int[] {0, 10, 4});
        x.iterate(1);
        double[] due = {0.0, 5.0, 4.0, 0.0, 0.0, 0.0, 0.0, 5.0, 0.0};
        for (int turn = 0; turn < 9; turn++) {
            check.same("estimate of turn " + turn, x.estimate(turn / 3, turn % 3), due[turn]);
        }
        check.same("the row of the inflow 0", x.sum(1, false), 0.0);
        check.same("the column of the outflow 0", x.sum(0, true), 0.0);
    }

    @Says("A round consists of the row steps of all arms in ascending order, followed by the column steps of all arms in"
        + " ascending order.")
    static void promise12AllRowsThenAllColumns(Check check) {
        TurnEstimator x = Junctions.fresh(3);
        Junctions.counts(x, new int[] {10, 6, 0}, new int[] {0, 8, 8});
        x.iterate(1);
        double[] due = {0.0, 8.0, 5.0, 0.0, 0.0, 3.0, 0.0, 0.0, 0.0};
        for (int turn = 0; turn < 9; turn++) {
            check.same("estimate of turn " + turn, x.estimate(turn / 3, turn % 3), due[turn]);
        }
        x.iterate(1);
        check.same("a second round", x.estimate(0, 2), (5.0 * (10.0 / 13.0)) * (8.0 / (5.0 * (10.0 / 13.0) + 6.0)));
    }

    @Says({"All computations with doubles are made in the order in which they are described.",
        "(The factor is computed first, then each estimate is multiplied by it."})
    static void promise12TheFactorIsComputedFirst(Check check) {
        TurnEstimator x = Junctions.fresh(3);
        Junctions.weightsFrom(x, 0, 0, 3, 2);
        x.setInflow(0, 11);
        x.setOutflow(1, 1);
        x.iterate(1);
        // Every other order gives 1.0.
        check.same("estimate(0, 1)", x.estimate(0, 1), 0.9999999999999999);
    }

    // ---- promise 13

    @Says({"the bound: the misfit is at most this number divided by 1000.0",
        "Carries out rounds until the misfit is at most a bound, or a number of rounds has been carried out by this call."})
    static void promise13SmallestAndGreatestBound(Check check) {
        check.same("the misfit is 0.0", Junctions.barred(3).fit(0, 100), 0);
        TurnEstimator x = Junctions.barred(3);
        x.setOutflow(2, 100);
        check.same("the misfit is 100.0", x.fit(100000, 100), 0);
        check.same("the bound below it", x.fit(99999, 1), 1);
        x.setOutflow(2, 101);
        check.same("the misfit is above the greatest bound", x.fit(100000, 100), 100);
        TurnEstimator y = new TurnEstimator();
        check.same("a bound of 0 is reached", y.fit(0, 100), 1);
        check.same("and kept", y.fit(0, 100), 0);
    }

    @Says("the bound: the misfit is at most this number divided by 1000.0")
    static void promise13TheBoundItself(Check check) {
        TurnEstimator x = contradictory();
        check.same("the misfit is 1.0", x.fit(1000, 100), 0);
        check.same("one round to 0.5", x.fit(999, 100), 1);
        check.same("misfit()", x.misfit(), 0.5);
        check.same("the misfit is the bound", x.fit(500, 100), 0);
        check.same("the bound is just below it", x.fit(499, 7), 7);
        TurnEstimator y = contradictory();
        y.setWeight(2, 2, 1);
        y.setInflow(2, 1);
        y.iterate(1);
        check.same("misfit() of thirds", y.misfit(), 1.0 - 1.0 / 3.0);
        check.same("a bound just above it", y.fit(667, 9), 0);
        check.same("a bound just below it", y.fit(666, 9), 9);
    }

    @Says({"the greatest number of rounds", "Returns the number of rounds that were carried out by this call."})
    static void promise13SmallestAndGreatestLimit(Check check) {
        TurnEstimator x = contradictory();
        check.same("iterate(50)", x.iterate(50), 50);
        check.same("fit(0, 1)", x.fit(0, 1), 1);
        check.same("fit(0, 100)", x.fit(0, 100), 100);
        check.same("fit(0, 99)", x.fit(0, 99), 99);
        check.same("rounds()", x.rounds(), 250);
    }

    @Says("The misfit is looked at before each round.")
    static void promise13TheBoundIsReachedAtTheLimit(Check check) {
        TurnEstimator x = Junctions.busy(4);
        int needed = 0;
        while (needed < 99 && x.misfit() > 0.001) {
            x.iterate(1);
            needed++;
        }
        check.same("some rounds are needed", needed > 2 && needed < 99, true);
        for (int limit = 1; limit <= needed + 2; limit++) {
            TurnEstimator y = Junctions.busy(4);
            int due = Math.min(limit, needed);
            check.same("fit(1, " + limit + ")", y.fit(1, limit), due);
            check.same("the rounds behind it", y.rounds(), 2 + due);
        }
        TurnEstimator z = Junctions.busy(4);
        z.fit(1, needed);
        check.same("the same estimate", Check.state(z), Check.state(x));
        check.same("fit again", z.fit(1, 1), 0);
        check.same("changes nothing", Check.state(z), Check.state(x));
    }

    @Says("Throws `IllegalArgumentException` if thousandths is not 0 to 100000, or limit is not 1 to 100")
    static void promise13FirstOnesOutside(Check check) {
        Check.Setup[] setups = {() -> Junctions.busy(4), () -> Junctions.barred(3), EstimateBoundaries::contradictory};
        for (Check.Setup setup : setups) {
            for (int thousandths : NO_THOUSANDTHS) {
                refusedFit(check, setup, thousandths, 1);
                refusedFit(check, setup, thousandths, 100);
                for (int limit : NO_LIMITS) {
                    refusedFit(check, setup, thousandths, limit);
                }
            }
            for (int limit : NO_LIMITS) {
                refusedFit(check, setup, 0, limit);
                refusedFit(check, setup, 100000, limit);
            }
        }
    }

    private static void refusedFit(Check check, Check.Setup setup, int thousandths, int limit) {
        check.refused("fit(" + thousandths + ", " + limit + ")", setup, IllegalArgumentException.class,
            x -> x.fit(thousandths, limit));
    }

    // ---- promises 14 and 15

    @Says({"Resets the estimate.", "Returns the number of rounds since it was reset before.",
        "The estimate is reset when it consists of the weights of the turns."})
    static void promise14NoRoundsOneAndMany(Check check) {
        for (int n = 3; n <= 6; n++) {
            TurnEstimator x = Junctions.busy(n);
            check.same("behind two rounds", x.reset(), 2);
            for (int turn = 0; turn < n * n; turn++) {
                int from = turn / n;
                int to = turn % n;
                double due = turn == n ? 0.0 : 2 + (7 * from + 11 * to) % 89;
                check.same("estimate(" + from + ", " + to + ")", x.estimate(from, to), due);
            }
            check.same("behind none", x.reset(), 0);
            x.iterate(1);
            check.same("behind one", x.reset(), 1);
            x.setInflow(0, 9999);
            x.iterate(50);
            check.same("behind 50 of iterate and 100 of fit", x.fit(0, 100) + x.reset(), 250);
            check.same("rounds() behind it", x.rounds(), 0);
        }
    }

    @Says("Resets the estimate.")
    static void promise14CountsAndWeightsStay(Check check) {
        TurnEstimator x = Junctions.busy(5);
        TurnEstimator y = Junctions.busy(5);
        x.reset();
        x.iterate(2);
        check.same("the same rounds again", Check.state(x), Check.state(y));
        TurnEstimator z = Junctions.barred(3);
        z.iterate(3);
        check.same("all weights are 0", z.reset(), 3);
        allEstimates(check, "all weights are 0", z, 0.0);
    }

    @Says({"Returns the number of rounds since the estimate was reset.", "Returns the number of rounds.",
        "The number of rounds counts those since the estimate was reset last."})
    static void promise15RoundsOfIterateAndFit(Check check) {
        check.same("of a new object", new TurnEstimator().rounds(), 0);
        TurnEstimator x = contradictory();
        check.same("of counts and weights alone", x.rounds(), 0);
        x.iterate(1);
        check.same("behind iterate(1)", x.rounds(), 1);
        x.fit(0, 3);
        check.same("behind fit(0, 3)", x.rounds(), 4);
        x.fit(100000, 3);
        check.same("behind a fit without a round", x.rounds(), 4);
        x.reset();
        check.same("behind reset()", x.rounds(), 0);
    }

    @Says("and it is reset by each call of setArms, setWeight, setInflow, setOutflow and scale that throws no exception.")
    static void promise15EveryChangeBeginsAnew(Check check) {
        Check.Use[] changes = {x -> x.setArms(4), x -> x.setArms(3), x -> x.setWeight(0, 0, 2), x -> x.setInflow(0, 101),
            x -> x.setOutflow(0, 131), x -> x.scale(100)};
        for (Check.Use change : changes) {
            TurnEstimator x = Junctions.busy(4);
            change.on(x);
            check.same("rounds() behind a change", x.rounds(), 0);
            check.same("iterate(3) behind it", x.iterate(3), 3);
        }
    }

    @Says("A call that throws an exception changes nothing.")
    static void promise15RefusedCallsBeginNothing(Check check) {
        Check.Use[] refused = {x -> x.setArms(7), x -> x.setWeight(0, 0, 100), x -> x.setWeight(4, 0, 1),
            x -> x.setInflow(0, 10000), x -> x.setInflow(4, 1), x -> x.setOutflow(0, -1), x -> x.setOutflow(-1, 1),
            x -> x.scale(301), x -> x.scale(-1), x -> x.iterate(0), x -> x.iterate(51), x -> x.fit(0, 0),
            x -> x.fit(-1, 1), x -> x.excess(16), x -> x.crossRatio(0, 1, 0, 0)};
        TurnEstimator x = Junctions.busy(4);
        for (Check.Use use : refused) {
            check.same("the call is refused", Check.thrownBy(() -> use.on(x)).equals("nothing"), false);
            check.same("rounds() behind it", x.rounds(), 2);
        }
    }

    @Says("An object is used for at most 512 calls after it has been made; what later calls answer is free.")
    static void promise15TheMostRounds(Check check) {
        TurnEstimator x = new TurnEstimator();
        x.setInflow(0, 1);
        for (int k = 0; k < 510; k++) {
            check.same("fit(0, 100)", x.fit(0, 100), 100);
        }
        check.same("rounds(), the 512th call", x.rounds(), 51000);
    }

    // ---- promises 16 and 17

    @Says({"Returns the estimate of a turn.", "Returns the estimate.", "The estimate is a value for each turn, a double."})
    static void promise16SmallestAndGreatestWeight(Check check) {
        for (int n = 3; n <= 6; n++) {
            allEstimates(check, n + " arms, all weights are 0", Junctions.barred(n), 0.0);
            TurnEstimator x = Junctions.fresh(n);
            for (int turn = 0; turn < n * n; turn++) {
                x.setWeight(turn / n, turn % n, 99);
            }
            allEstimates(check, n + " arms, all weights are 99", x, 99.0);
        }
    }

    @Says("The estimate is a value for each turn, a double.")
    static void promise16EachTurnHasItsOwn(Check check) {
        for (int n = 3; n <= 6; n++) {
            TurnEstimator x = Junctions.fresh(n);
            for (int turn = 0; turn < n * n; turn++) {
                x.setWeight(turn / n, turn % n, 99 - turn);
            }
            for (int turn = 0; turn < n * n; turn++) {
                check.same(n + " arms, turn " + turn, x.estimate(turn / n, turn % n), 99.0 - turn);
            }
        }
    }

    @Says({"arm number", "Throws `IndexOutOfBoundsException` if one of the arms does not exist"})
    static void promise16ArmsThatDoNotExist(Check check) {
        for (int n = 3; n <= 6; n++) {
            int arms = n;
            for (int arm : Junctions.noArms(n)) {
                String what = n + " arms, arm " + arm;
                Class<?> due = IndexOutOfBoundsException.class;
                check.refused(what + " from", () -> Junctions.busy(arms), due, x -> x.estimate(arm, 0));
                check.refused(what + " to", () -> Junctions.busy(arms), due, x -> x.estimate(1, arm));
                check.refused(what + " from and to", () -> Junctions.busy(arms), due, x -> x.estimate(arm, arm));
            }
        }
    }

    @Says({"Returns the row sum or the column sum of an arm.", "true for the column sum, false for the row sum",
        "Returns the sum.", "The row sum of an arm is the sum of the estimates of the turns from it; its column sum is"
        + " the sum of the estimates of the turns to it."})
    static void promise17SmallestAndGreatestSums(Check check) {
        for (int n = 3; n <= 6; n++) {
            TurnEstimator none = Junctions.barred(n);
            TurnEstimator most = Junctions.fresh(n);
            TurnEstimator rows = Junctions.barred(n);
            for (int turn = 0; turn < n * n; turn++) {
                most.setWeight(turn / n, turn % n, 99);
                rows.setWeight(turn / n, turn % n, 10 * (turn / n) + 1);
            }
            for (int arm = 0; arm < n; arm++) {
                String what = n + " arms, arm " + arm;
                check.same(what + ", all weights are 0, row", none.sum(arm, false), 0.0);
                check.same(what + ", all weights are 0, column", none.sum(arm, true), 0.0);
                check.same(what + ", all weights are 99, row", most.sum(arm, false), 99.0 * n);
                check.same(what + ", all weights are 99, column", most.sum(arm, true), 99.0 * n);
                check.same(what + ", rows differ, row", rows.sum(arm, false), n * (10.0 * arm + 1));
                check.same(what + ", rows differ, column", rows.sum(arm, true), n + 5.0 * n * (n - 1));
            }
        }
    }

    @Says("Sums begin with 0.0, and the values are added in ascending order of the arms.")
    static void promise17AscendingOrder(Check check) {
        TurnEstimator x = Junctions.fresh(6);
        for (int from = 0; from < 6; from++) {
            x.setInflow(from, 9999 - 7 * from * from);
            x.setOutflow(from, 3 + 1999 * from);
            for (int to = 0; to < 6; to++) {
                x.setWeight(from, to, 1 + (17 * from + 29 * to) % 97);
            }
        }
        int rowsThatDiffer = 0;
        int columnsThatDiffer = 0;
        for (int k = 0; k < 8; k++) {
            x.iterate(1);
            double[] e = new double[36];
            for (int turn = 0; turn < 36; turn++) {
                e[turn] = x.estimate(turn / 6, turn % 6);
            }
            for (int arm = 0; arm < 6; arm++) {
                double row = 0.0;
                double column = 0.0;
                double rowBack = 0.0;
                double columnBack = 0.0;
                for (int other = 0; other < 6; other++) {
                    row += e[6 * arm + other];
                    column += e[6 * other + arm];
                    rowBack += e[6 * arm + 5 - other];
                    columnBack += e[6 * (5 - other) + arm];
                }
                check.same("sum(" + arm + ", false)", x.sum(arm, false), row);
                check.same("sum(" + arm + ", true)", x.sum(arm, true), column);
                rowsThatDiffer += row != rowBack ? 1 : 0;
                columnsThatDiffer += column != columnBack ? 1 : 0;
            }
        }
        check.same("the order of rows matters here", rowsThatDiffer > 0, true);
        check.same("the order of columns matters here", columnsThatDiffer > 0, true);
    }

    @Says({"arm number", "Throws `IndexOutOfBoundsException` if the arm does not exist"})
    static void promise17ArmsThatDoNotExist(Check check) {
        for (int n = 3; n <= 6; n++) {
            int arms = n;
            for (int arm : Junctions.noArms(n)) {
                String what = n + " arms, arm " + arm;
                Class<?> due = IndexOutOfBoundsException.class;
                check.refused(what + ", row", () -> Junctions.busy(arms), due, x -> x.sum(arm, false));
                check.refused(what + ", column", () -> Junctions.busy(arms), due, x -> x.sum(arm, true));
            }
        }
    }

    // ---- promise 18

    @Says({"Returns the misfit of the estimate.", "Returns the misfit."})
    static void promise18LeastAndGreatest(Check check) {
        for (int n = 3; n <= 6; n++) {
            TurnEstimator x = Junctions.barred(n);
            check.same(n + " arms, all counts and weights are 0", x.misfit(), 0.0);
            x.setInflow(n - 1, 9999);
            check.same(n + " arms, the greatest inflow", x.misfit(), 9999.0);
            x.setInflow(n - 1, 0);
            x.setOutflow(n - 1, 9999);
            check.same(n + " arms, the greatest outflow", x.misfit(), 9999.0);
        }
        TurnEstimator y = Junctions.barred(6);
        Junctions.weightsFrom(y, 0, 1, 1, 1, 1, 1, 1);
        y.setInflow(0, 6);
        for (int arm = 0; arm < 6; arm++) {
            y.setOutflow(arm, 9999);
        }
        y.iterate(1);
        check.same("a row far above its inflow", y.misfit(), 59994.0 - 6.0);
    }

    @Says("The misfit of the estimate is the greatest value of the absolute differences of row sum and inflow, and of"
        + " column sum and outflow, over all arms.")
    static void promise18RowsAndColumnsAboveAndBelow(Check check) {
        for (int arm = 0; arm < 4; arm++) {
            int next = (arm + 1) % 4;
            String what = "arm " + arm + ", ";
            TurnEstimator x = new TurnEstimator();
            check.same(what + "of a new object", x.misfit(), 3.0);
            x.setInflow(arm, 50);
            check.same(what + "a row below", x.misfit(), 47.0);
            x.setOutflow(arm, 100);
            check.same(what + "a column below", x.misfit(), 97.0);
            x.setInflow(arm, 0);
            x.setOutflow(arm, 0);
            x.setWeight(arm, next, 40);
            check.same(what + "a row and a column above", x.misfit(), 42.0);
            x.setOutflow(next, 42);
            check.same(what + "the row above", x.misfit(), 42.0);
            x.setOutflow(next, 0);
            x.setInflow(arm, 42);
            check.same(what + "the column above", x.misfit(), 42.0);
            x.setOutflow(next, 42);
            check.same(what + "neither", x.misfit(), 3.0);
        }
    }

    @Says("The misfit of the estimate is the greatest value of the absolute differences of row sum and inflow, and of"
        + " column sum and outflow, over all arms.")
    static void promise18LessThanOneVehicle(Check check) {
        TurnEstimator x = contradictory();
        x.iterate(1);
        check.same("a row half a vehicle below", x.misfit(), 0.5);
        TurnEstimator y = Junctions.barred(4);
        Junctions.weightsFrom(y, 0, 0, 1, 1, 0);
        y.setWeight(1, 2, 1);
        y.setWeight(3, 2, 1);
        Junctions.counts(y, new int[] {1, 1, 0, 1}, new int[] {0, 1, 2, 0});
        y.iterate(1);
        check.same("a row two fifths above", y.misfit(), (1.0 + 0.5 * (2 / 2.5)) - 1.0);
        check.same("of a tiny row sum", tinyRowSum().misfit() > 9998.0, true);
    }

    // ---- promise 19

    @Says({"Returns the share of a turn in the traffic that enters by its arm.",
        "Returns the estimate of the turn divided by the row sum of the arm from which it leads; 0.0 if that row sum is"
            + " not greater than 0.0."})
    static void promise19NoneSomeAndAll(Check check) {
        for (int n = 3; n <= 6; n++) {
            for (int from = 0; from < n; from++) {
                TurnEstimator barred = Junctions.barred(n);
                TurnEstimator empty = Junctions.fresh(n);
                TurnEstimator fresh = Junctions.fresh(n);
                TurnEstimator single = Junctions.barred(n);
                single.setWeight(from, from, 1);
                empty.iterate(1);
                for (int to = 0; to < n; to++) {
                    String what = n + " arms, " + from + " " + to;
                    check.same(what + ", all weights are 0", barred.share(from, to), 0.0);
                    check.same(what + ", all counts are 0, behind a round", empty.share(from, to), 0.0);
                    check.same(what + ", equal shares", fresh.share(from, to), from == to ? 0.0 : 1.0 / (n - 1));
                    check.same(what + ", one open turn", single.share(from, to), from == to ? 1.0 : 0.0);
                }
            }
        }
    }

    @Says("Returns the share of a turn in the traffic that enters by its arm.")
    static void promise19OfTheRowSumNotTheInflow(Check check) {
        TurnEstimator x = Junctions.fresh(3);
        Junctions.counts(x, new int[] {10, 6, 0}, new int[] {0, 8, 8});
        check.same("at first", x.share(0, 1), 0.5);
        x.iterate(1);
        check.same("8.0 of 13.0", x.share(0, 1), 8.0 / 13.0);
        check.same("3.0 of 3.0", x.share(1, 2), 1.0);
        check.same("an inflow of 0", x.share(2, 1), 0.0);
        TurnEstimator tiny = tinyRowSum();
        check.same("a tiny row sum, the open turn", tiny.share(0, 5), 1.0);
        check.same("a tiny row sum, another turn", tiny.share(0, 4), 0.0);
    }

    @Says({"arm number", "Throws `IndexOutOfBoundsException` if one of the arms does not exist"})
    static void promise19ArmsThatDoNotExist(Check check) {
        for (int n = 3; n <= 6; n++) {
            int arms = n;
            for (int arm : Junctions.noArms(n)) {
                String what = n + " arms, arm " + arm;
                Class<?> due = IndexOutOfBoundsException.class;
                check.refused(what + " from", () -> Junctions.busy(arms), due, x -> x.share(arm, 0));
                check.refused(what + " to", () -> Junctions.busy(arms), due, x -> x.share(1, arm));
                check.refused(what + " to, no row sum", () -> Junctions.barred(arms), due, x -> x.share(0, arm));
                check.refused(what + " from, no row sum", () -> Junctions.barred(arms), due, x -> x.share(arm, 0));
            }
        }
    }

    // ---- promise 20

    @Says({"Returns the first product divided by the second one.",
        "Returns a cross ratio, which row and column steps do not change (but for rounding errors): the estimate of the"
            + " turn from a to c times that of the turn from b to d, divided by the product of the estimate of the turn"
            + " from a to d and that of the turn from b to c."})
    static void promise20TheFourTurns(Check check) {
        TurnEstimator x = Junctions.fresh(6);
        x.setWeight(0, 4, 2);
        x.setWeight(1, 5, 3);
        x.setWeight(0, 5, 5);
        x.setWeight(1, 4, 7);
        check.same("crossRatio(0, 1, 4, 5)", x.crossRatio(0, 1, 4, 5), 6.0 / 35.0);
        check.same("crossRatio(1, 0, 4, 5)", x.crossRatio(1, 0, 4, 5), 35.0 / 6.0);
        check.same("crossRatio(0, 1, 5, 4)", x.crossRatio(0, 1, 5, 4), 35.0 / 6.0);
        check.same("a is b", x.crossRatio(1, 1, 4, 5), 1.0);
        check.same("c is d", x.crossRatio(0, 1, 4, 4), 1.0);
        check.same("the first turn is barred", x.crossRatio(4, 1, 4, 5), 0.0);
        check.same("the second turn is barred", x.crossRatio(0, 5, 4, 5), 0.0);
        for (int arm = 0; arm < 6; arm++) {
            x.setInflow(arm, 100 + 10 * arm);
            x.setOutflow(arm, 150 - 10 * arm);
        }
        x.iterate(12);
        check.near("rounds do not change it", x.crossRatio(0, 1, 4, 5), 6.0 / 35.0, 1e-9);
    }

    @Says("Throws `ArithmeticException` if the second product is not greater than 0.0")
    static void promise20NoSecondProduct(Check check) {
        Class<?> due = ArithmeticException.class;
        check.refused("the turn from a to d is barred", TurnEstimator::new, due, x -> x.crossRatio(0, 1, 2, 0));
        check.refused("the turn from b to c is barred", TurnEstimator::new, due, x -> x.crossRatio(0, 1, 1, 3));
        check.refused("both are barred", TurnEstimator::new, due, x -> x.crossRatio(0, 1, 1, 0));
        check.refused("all four are barred", TurnEstimator::new, due, x -> x.crossRatio(3, 3, 3, 3));
        check.refused("all weights are 0", () -> Junctions.barred(3), due, x -> x.crossRatio(0, 1, 2, 0));
        Check.Setup empty = () -> {
            TurnEstimator x = new TurnEstimator();
            x.iterate(1);
            return x;
        };
        check.refused("all counts are 0, behind a round", empty, due, x -> x.crossRatio(0, 1, 2, 3));
    }

    /**
     * Arm 1 sends twice as many vehicles to arm 0 as leave there, so that every round halves the
     * estimates of the other turns to arm 0, until their product is too small for a double.
     */
    @Says("Throws `ArithmeticException` if the second product is not greater than 0.0")
    static void promise20ProductsThatVanish(Check check) {
        TurnEstimator x = Junctions.fresh(3);
        x.setWeight(0, 0, 3);
        x.setWeight(1, 2, 0);
        Junctions.counts(x, new int[] {5, 10, 5}, new int[] {5, 10, 0});
        int small = 0;
        int vanished = 0;
        for (int k = 0; k < 70; k++) {
            x.iterate(k < 10 ? 50 : 1);
            double a = x.estimate(0, 0);
            double b = x.estimate(2, 0);
            boolean product = a * b > 0.0;
            String thrown = Check.thrownBy(() -> x.crossRatio(0, 2, 0, 0));
            check.same("a product of " + a * b, thrown, product ? "nothing" : "ArithmeticException");
            if (product) {
                check.same("it is divided by itself", x.crossRatio(0, 2, 0, 0), 1.0);
            }
            small += product && a * b < 1e-310 ? 1 : 0;
            vanished += !product && a > 0.0 && b > 0.0 ? 1 : 0;
        }
        check.same("the least products were seen", small > 2, true);
        check.same("and products that are 0.0 though no factor is", vanished > 2, true);
    }

    @Says({"arm number", "Throws `IndexOutOfBoundsException` if one of the arms does not exist"})
    static void promise20ArmsThatDoNotExist(Check check) {
        for (int n = 3; n <= 6; n++) {
            int arms = n;
            Check.Setup setup = () -> Junctions.busy(arms);
            Class<?> due = IndexOutOfBoundsException.class;
            for (int arm : Junctions.noArms(n)) {
                String what = n + " arms, arm " + arm;
                check.refused(what + " is a", setup, due, x -> x.crossRatio(arm, 0, 1, 2));
                check.refused(what + " is b", setup, due, x -> x.crossRatio(0, arm, 1, 2));
                check.refused(what + " is c", setup, due, x -> x.crossRatio(0, 2, arm, 2));
                check.refused(what + " is d", setup, due, x -> x.crossRatio(0, 2, 1, arm));
                check.refused(what + " is all", setup, due, x -> x.crossRatio(arm, arm, arm, arm));
            }
        }
    }

    @Says("If several exceptions apply, the one that is named first in the throws clause is thrown.")
    static void promise20TheArmIsNamedFirst(Check check) {
        for (int n = 3; n <= 6; n++) {
            int arms = n;
            Check.Setup setup = () -> Junctions.barred(arms);
            Class<?> due = IndexOutOfBoundsException.class;
            for (int arm : Junctions.noArms(n)) {
                String what = n + " arms, all weights are 0, arm " + arm;
                check.refused(what + " is a", setup, due, x -> x.crossRatio(arm, 0, 0, 0));
                check.refused(what + " is b", setup, due, x -> x.crossRatio(0, arm, 0, 0));
                check.refused(what + " is c", setup, due, x -> x.crossRatio(0, 0, arm, 0));
                check.refused(what + " is d", setup, due, x -> x.crossRatio(0, 0, 0, arm));
            }
        }
    }

    // ---- promise 21

    @Says({"Returns the turn with the greatest estimate.",
        "Returns 10 * (arm from which it leads) + (arm to which it leads), of several such turns the least number; NONE"
            + " if no estimate is greater than 0.0."})
    static void promise21NoneTheFirstAndTheLast(Check check) {
        for (int n = 3; n <= 6; n++) {
            TurnEstimator x = Junctions.barred(n);
            check.same(n + " arms, all weights are 0", x.busiestTurn(), -1);
            for (int turn = n * n - 1; turn >= 0; turn--) {
                x.setWeight(turn / n, turn % n, 1);
                check.same(n + " arms, of equal ones the least number", x.busiestTurn(), 10 * (turn / n) + turn % n);
            }
            for (int turn = 0; turn < n * n; turn++) {
                x.setWeight(turn / n, turn % n, 2 + turn);
                check.same(n + " arms, one is greater", x.busiestTurn(), 10 * (turn / n) + turn % n);
            }
            x.iterate(1);
            check.same(n + " arms, all counts are 0, behind a round", x.busiestTurn(), -1);
        }
    }

    @Says("Returns the turn with the greatest estimate.")
    static void promise21EstimatesBelowOne(Check check) {
        TurnEstimator x = Junctions.barred(6);
        for (int from = 0; from < 6; from++) {
            x.setWeight(from, 5, 1);
            x.setInflow(from, 5);
        }
        x.setOutflow(5, 1);
        x.iterate(1);
        check.same("six estimates of a sixth", x.busiestTurn(), 5);
        x.setInflow(3, 6);
        x.iterate(1);
        check.same("one is a little greater", x.busiestTurn(), 35);
    }
}
