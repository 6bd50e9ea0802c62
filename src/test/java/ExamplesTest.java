import java.io.IOException;

/** The three examples of the section "Description", call by call, and once more from its own words. */
public final class ExamplesTest {
    private static final Check CHECK = new Check("ExamplesTest");
    private static final int[] CALLS = {14, 12, 12};

    public static void main(String[] args) throws IOException, IllegalAccessException {
        example1(new TurnEstimator());
        example2(new TurnEstimator());
        example3(new TurnEstimator());
        if (Document.isHere("ExamplesTest")) {
            asTheDocumentWritesThem();
        }
        CHECK.end();
    }

    private static void example1(TurnEstimator x) {
        CHECK.same("1: setArms(3)", x.setArms(3), 4);
        CHECK.same("1: setInflow(0, 10)", x.setInflow(0, 10), 0);
        CHECK.same("1: setInflow(1, 6)", x.setInflow(1, 6), 0);
        CHECK.same("1: setOutflow(1, 8)", x.setOutflow(1, 8), 0);
        CHECK.same("1: setOutflow(2, 8)", x.setOutflow(2, 8), 0);
        CHECK.same("1: isPossible()", x.isPossible(), true);
        CHECK.same("1: possible(0, 1)", x.possible(0, 1), 8);
        CHECK.same("1: possible(0, 2)", x.possible(0, 2), 2);
        CHECK.same("1: misfit()", x.misfit(), 8.0);
        CHECK.same("1: iterate(1)", x.iterate(1), 1);
        CHECK.same("1: estimate(0, 1)", x.estimate(0, 1), 8.0);
        CHECK.same("1: estimate(1, 2)", x.estimate(1, 2), 3.0);
        CHECK.same("1: rounded(0, 1)", x.rounded(0, 1), 6);
        CHECK.same("1: rounds()", x.rounds(), 1);
    }

    private static void example2(TurnEstimator x) {
        CHECK.same("2: setInflow(0, 5)", x.setInflow(0, 5), 0);
        CHECK.same("2: setOutflow(0, 5)", x.setOutflow(0, 5), 0);
        CHECK.same("2: imbalance()", x.imbalance(), 0);
        CHECK.same("2: crowdedSet()", x.crowdedSet(), 1);
        CHECK.same("2: excess(1)", x.excess(1), 5);
        CHECK.same("2: isPossible()", x.isPossible(), false);
        CHECK.same("2: setWeight(0, 0, 3)", x.setWeight(0, 0, 3), 0);
        CHECK.same("2: crowdedSet()", x.crowdedSet(), -1);
        CHECK.same("2: possible(0, 0)", x.possible(0, 0), 5);
        CHECK.same("2: busiestTurn()", x.busiestTurn(), 0);
        CHECK.same("2: estimate(0, 0)", x.estimate(0, 0), 3.0);
        CHECK.same("2: fit(10, 20)", x.fit(10, 20), 1);
    }

    private static void example3(TurnEstimator x) {
        CHECK.thrown("3: setWeight(0, 4, 1)", IndexOutOfBoundsException.class, () -> x.setWeight(0, 4, 1));
        CHECK.thrown("3: setWeight(0, 1, 100)", IllegalArgumentException.class, () -> x.setWeight(0, 1, 100));
        CHECK.thrown("3: setInflow(0, 10000)", IllegalArgumentException.class, () -> x.setInflow(0, 10000));
        CHECK.same("3: crossRatio(0, 1, 2, 3)", x.crossRatio(0, 1, 2, 3), 1.0);
        CHECK.thrown("3: crossRatio(0, 1, 1, 3)", ArithmeticException.class, () -> x.crossRatio(0, 1, 1, 3));
        CHECK.same("3: crossRatio(0, 1, 3, 1)", x.crossRatio(0, 1, 3, 1), 0.0);
        CHECK.thrown("3: scale(301)", IllegalArgumentException.class, () -> x.scale(301));
        CHECK.same("3: setInflow(2, 9999)", x.setInflow(2, 9999), 0);
        CHECK.thrown("3: scale(101)", IllegalStateException.class, () -> x.scale(101));
        CHECK.same("3: scale(50)", x.scale(50), 5000);
        CHECK.same("3: rounded(2, 0)", x.rounded(2, 0), 1667);
        CHECK.same("3: share(0, 0)", x.share(0, 0), 0.0);
    }

    private static void asTheDocumentWritesThem() throws IOException, IllegalAccessException {
        String description = Document.section("## Description");
        for (int example = 1; example <= CALLS.length; example++) {
            int start = description.indexOf("\n" + example + ". ") + 1;
            CHECK.same("the document has example " + example, start > 0, true);
            String line = description.substring(start, (description + "\n").indexOf('\n', start));
            String[] calls = line.substring(line.indexOf(": ") + 2).split("[;.]( |$)");
            CHECK.same("the calls of example " + example, calls.length, CALLS[example - 1]);
            TurnEstimator x = new TurnEstimator();
            for (String call : calls) {
                String[] parts = call.split(" = ");
                String due = parts.length == 2 ? parts[1] : "written behind it";
                CHECK.same(example + ": " + call, Calls.answer(x, parts[0]), due);
            }
        }
    }
}
