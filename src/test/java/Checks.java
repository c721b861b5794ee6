/** Compares answers with those that are due, and counts the wrong ones. */
final class Checks {
    /** A call of which only the exception matters. */
    interface Call {
        void make();
    }

    private final String test;
    private int made = 0;
    private int wrong = 0;

    Checks(String test) {
        this.test = test;
    }

    void due(String what, long got, long want) {
        made++;
        if (got != want) {
            wrong++;
            System.out.println(test + ": " + what + " answered " + got + ", due is " + want);
        }
    }

    void due(String what, boolean got, boolean want) {
        due(what, got ? 1 : 0, want ? 1 : 0);
    }

    void due(String what, String got, String want) {
        made++;
        if (!got.equals(want)) {
            wrong++;
            System.out.println(test + ": " + what + " answered " + got + ", due is " + want);
        }
    }

    void argument(String what, Call call) {
        due(what, thrownBy(call), "IllegalArgumentException");
    }

    void state(String what, Call call) {
        due(what, thrownBy(call), "IllegalStateException");
    }

    void index(String what, Call call) {
        due(what, thrownBy(call), "IndexOutOfBoundsException");
    }

    /** The exact class counts: a subclass such as ArrayIndexOutOfBoundsException is not what is due. */
    static String thrownBy(Call call) {
        try {
            call.make();
            return "nothing";
        } catch (RuntimeException e) {
            return e.getClass().getSimpleName();
        }
    }

    void end() {
        System.out.println(test + ": " + made + " checks, " + wrong + " wrong");
        if (wrong != 0) {
            System.exit(1);
        }
    }
}
