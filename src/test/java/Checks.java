/** Compares answers with those that are due, and counts the wrong ones. */
final class Checks {
    /** A call of which only the exception matters. */
    interface Call {
        void make();
    }

    private final String test;
    private String sentence = "";
    private int made = 0;
    private int madeBefore = 0;
    private int sentences = 0;
    private int wrong = 0;

    Checks(String test) {
        this.test = test;
    }

    /** The checks that follow are those of this sentence of the document. */
    void sentence(String words) {
        endSentence();
        sentence = words;
        sentences++;
    }

    /** A sentence without a check would only seem to be tested. */
    private void endSentence() {
        if (!sentence.isEmpty() && made == madeBefore) {
            tellWrong("no check of this sentence was made");
        }
        madeBefore = made;
    }

    private void tellWrong(String what) {
        wrong++;
        System.out.println(test + ": " + what + (sentence.isEmpty() ? "" : " [" + sentence + "]"));
    }

    /** Makes tests one after the other; one that is broken off by an exception does not keep the next from running. */
    void each(Call... tests) {
        for (Call test : tests) {
            try {
                test.make();
            } catch (RuntimeException e) {
                made++;
                tellWrong("broken off by " + e + " at " + e.getStackTrace()[0]);
            }
        }
    }

    void due(String what, long got, long want) {
        made++;
        if (got != want) {
            tellWrong(what + " answered " + got + ", due is " + want);
        }
    }

    void due(String what, boolean got, boolean want) {
        due(what, got ? 1 : 0, want ? 1 : 0);
    }

    void due(String what, String got, String want) {
        made++;
        if (!got.equals(want)) {
            tellWrong(what + " answered " + got + ", due is " + want);
        }
    }

    void argument(String what, Call call) {
        due(what, thrownBy(call), "IllegalArgumentException");
    }

    void state(String what, Call call) {
        due(what, thrownBy(call), "IllegalStateException");
    }

    void index(String what, Call call) {
        due(what, thrownBy(call), "IndexOutOfBoundsException");
    }

    /** The exact class counts: a subclass such as ArrayIndexOutOfBoundsException is not what is due. */
    static String thrownBy(Call call) {
        try {
            call.make();
            return "nothing";
        } catch (RuntimeException e) {
            return e.getClass().getSimpleName();
        }
    }

    void end() {
        endSentence();
        String of = sentences == 0 ? "" : " of " + sentences + " sentences";
        System.out.println(test + ": " + made + " checks" + of + ", " + wrong + " wrong");
        if (wrong != 0) {
            System.exit(1);
        }
    }
}
