/** Counts the answers that are not as due, for the tests of this directory. */
final class Check {
    interface Call {
        void run();
    }

    interface Setup {
        TurnEstimator make();
    }

    interface Use {
        void on(TurnEstimator x);
    }

    private final String test;
    private String part = "";
    private int looked = 0;
    private int wrong = 0;
    private int told = 0;

    Check(String test) {
        this.test = test;
    }

    /** What is looked at from now on belongs to this part of the test. */
    void begin(String name) {
        part = name + ": ";
        told = 0;
    }

    int looked() {
        return looked;
    }

    void same(String call, long got, long due) {
        looked++;
        if (got != due) {
            tell(call + " answered " + got + ", due is " + due);
        }
    }

    void same(String call, double got, double due) {
        looked++;
        if (Double.doubleToLongBits(got) != Double.doubleToLongBits(due)) {
            tell(call + " answered " + got + ", due is " + due);
        }
    }

    void same(String call, boolean got, boolean due) {
        looked++;
        if (got != due) {
            tell(call + " answered " + got + ", due is " + due);
        }
    }

    void near(String call, double got, double due, double most) {
        looked++;
        if (!(Math.abs(got - due) <= most)) {
            tell(call + " answered " + got + ", due is about " + due);
        }
    }

    void same(String call, String got, String due) {
        looked++;
        if (!got.equals(due)) {
            tell(call + " answered " + got + ", due is " + due);
        }
    }

    void thrown(String call, Class<?> due, Call body) {
        same(call, thrownBy(body), due.getSimpleName());
    }

    /**
     * The call throws exactly this exception, and leaves an object behind that answers like a twin
     * which has never seen the call.
     */
    void refused(String call, Setup setup, Class<?> due, Use use) {
        TurnEstimator x = setup.make();
        TurnEstimator twin = setup.make();
        thrown(call, due, () -> use.on(x));
        same(call + ": the state behind it", state(x), state(twin));
    }

    static String thrownBy(Call body) {
        try {
            body.run();
            return "nothing";
        } catch (RuntimeException e) {
            return e.getClass().getSimpleName();
        }
    }

    /** All that can be asked of an estimator, in one text, by at most 177 calls. */
    static String state(TurnEstimator x) {
        StringBuilder text = new StringBuilder();
        int n = x.arms();
        text.append(n).append(' ').append(x.rounds()).append(' ').append(x.digest());
        text.append(' ').append(x.misfit()).append(' ').append(x.imbalance());
        for (int from = 0; from < n; from++) {
            for (int to = 0; to < n; to++) {
                text.append(' ').append(x.estimate(from, to)).append(' ').append(x.rounded(from, to));
                text.append(' ').append(x.possible(from, to));
            }
        }
        for (int set = 0; set < 1 << n; set++) {
            text.append(' ').append(x.excess(set));
        }
        return text.toString();
    }

    void end() {
        if (looked == 0) {
            tell("nothing was looked at");
        }
        if (wrong != 0) {
            System.out.println(test + ": " + wrong + " of " + looked + " answers are not as due");
            System.exit(1);
        }
    }

    private void tell(String text) {
        wrong++;
        told++;
        if (told <= 20) {
            System.out.println(test + ": " + part + text);
        }
    }
}
