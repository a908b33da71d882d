/** Counts and prints the answers of one test that are not as due. */
final class Check {
    private final String name;
    private int made = 0;
    private int wrong = 0;

    Check(String name) {
        this.name = name;
    }

    void same(String what, long got, long due) {
        tell(what, got == due, got, due);
    }

    void same(String what, double got, double due) {
        tell(what, got == due, got, due);
    }

    void same(String what, String got, String due) {
        tell(what, got.equals(due), got, due);
    }

    void holds(String what, boolean got) {
        tell(what, got, got, true);
    }

    /** The call must throw an exception of just this class. */
    void refused(String what, Class<? extends RuntimeException> due, Runnable call) {
        String got = "nothing";
        try {
            call.run();
        } catch (RuntimeException thrown) {
            got = thrown.getClass().getSimpleName();
        }
        same(what + " throws", got, due.getSimpleName());
    }

    private void tell(String what, boolean isRight, Object got, Object due) {
        made++;
        if (!isRight) {
            wrong++;
            System.out.println(name + ": " + what + " answered " + got + ", due is " + due);
        }
    }

    void finish() {
        System.out.println(name + ": " + made + " answers, " + wrong + " of them wrong");
        if (wrong != 0 || made == 0) {
            System.exit(1);
        }
    }
}
