/** Calls that the document refuses on one kind of loom: by the exception that is due, and with nothing changed. */
final class Refusals {
    /** Far too small and far too large, for every number that a call takes. */
    static final int[] FAR_OFF = {Integer.MIN_VALUE, Integer.MIN_VALUE + 1, Integer.MAX_VALUE - 1, Integer.MAX_VALUE};

    interface NumberUse {
        void of(ShaftLoom loom, int number);
    }

    private final Checks checks;
    private final String name;
    private final Visible.Maker maker;
    private final String before;

    Refusals(Checks checks, String name, Visible.Maker maker) {
        this.checks = checks;
        this.name = name;
        this.maker = maker;
        this.before = Visible.after(maker, loom -> { });
    }

    void argument(String what, Visible.Use call) {
        due(what, call, "IllegalArgumentException");
    }

    void state(String what, Visible.Use call) {
        due(what, call, "IllegalStateException");
    }

    void index(String what, Visible.Use call) {
        due(what, call, "IndexOutOfBoundsException");
    }

    /** A number that must lie between two bounds: the first beyond each of them, and those far off. */
    void argumentBeyond(String what, int least, int most, NumberUse call) {
        for (int number : beyond(least, most)) {
            argument(what + " " + number, loom -> call.of(loom, number));
        }
    }

    void indexBeyond(String what, int least, int most, NumberUse call) {
        for (int number : beyond(least, most)) {
            index(what + " " + number, loom -> call.of(loom, number));
        }
    }

    static int[] beyond(int least, int most) {
        int[] numbers = new int[FAR_OFF.length + 2];
        numbers[0] = least - 1;
        numbers[1] = most + 1;
        System.arraycopy(FAR_OFF, 0, numbers, 2, FAR_OFF.length);
        return numbers;
    }

    private void due(String what, Visible.Use call, String exception) {
        ShaftLoom loom = maker.make();
        String full = name + ": " + what;
        checks.due(full, Checks.thrownBy(() -> call.of(loom)), exception);
        checks.due(full + " leaves all as it was", Visible.after(maker, call).equals(before), true);
    }
}
