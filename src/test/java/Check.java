/** Counts the answers that are not as due, for the tests of this directory. */
final class Check {
    interface Call {
        void run();
    }

    private final String test;
    private int looked = 0;
    private int wrong = 0;

    Check(String test) {
        this.test = test;
    }

    void same(String call, long got, long due) {
        looked++;
        if (got != due) {
            tell(call + " answered " + got + ", due is " + due);
        }
    }

    void same(String call, double got, double due) {
        looked++;
        if (Double.doubleToLongBits(got) != Double.doubleToLongBits(due)) {
            tell(call + " answered " + got + ", due is " + due);
        }
    }

    void same(String call, boolean got, boolean due) {
        same(call, got ? 1L : 0L, due ? 1L : 0L);
    }

    void near(String call, double got, double due, double most) {
        looked++;
        if (!(Math.abs(got - due) <= most)) {
            tell(call + " answered " + got + ", due is about " + due);
        }
    }

    void same(String call, String got, String due) {
        looked++;
        if (!got.equals(due)) {
            tell(call + " answered " + got + ", due is " + due);
        }
    }

    /** The call throws exactly this exception, and changes nothing of the estimator. */
    void refused(String call, TurnEstimator x, Class<?> due, Call body) {
        String before = state(x);
        same(call, thrownBy(body), due.getSimpleName());
        same(call + ": the state behind it", state(x), before);
    }

    static String thrownBy(Call body) {
        try {
            body.run();
            return "nothing";
        } catch (RuntimeException e) {
            return e.getClass().getSimpleName();
        }
    }

    /** All that can be asked of an estimator, in one text. */
    static String state(TurnEstimator x) {
        StringBuilder text = new StringBuilder();
        int n = x.arms();
        text.append(n).append(' ').append(x.rounds()).append(' ').append(x.digest());
        text.append(' ').append(x.misfit()).append(' ').append(x.imbalance());
        for (int from = 0; from < n; from++) {
            for (int to = 0; to < n; to++) {
                text.append(' ').append(x.estimate(from, to)).append(' ').append(x.rounded(from, to));
                text.append(' ').append(x.possible(from, to));
            }
        }
        for (int set = 0; set < 1 << n; set++) {
            text.append(' ').append(x.excess(set));
        }
        return text.toString();
    }

    void end() {
        if (looked == 0) {
            tell("nothing was looked at");
        }
        if (wrong != 0) {
            System.out.println(test + ": " + wrong + " of " + looked + " answers are not as due");
            System.exit(1);
        }
    }

    private void tell(String text) {
        wrong++;
        if (wrong <= 40) {
            System.out.println(test + ": " + text);
        }
    }
}
