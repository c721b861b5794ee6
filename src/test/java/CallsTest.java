/** "An object is used for at most 512 calls after it has been made": the 512th call is answered like the first. */
public final class CallsTest {
    private static final int CALLS = 512;
    private static final int PREPARED = 11;
    private static final Checks checks = new Checks("CallsTest");

    public static void main(String[] args) {
        checks.sentence("What it is: An object is used for at most 512 calls after it has been made");
        checks.each(
                CallsTest::lastAnswers,
                CallsTest::lastRefusals,
                CallsTest::growAndShrink,
                CallsTest::dearestCalls,
                CallsTest::oneCall);
        checks.end();
    }

    private static void lastAnswers() {
        checks.due("run", used().run(false, 4, 4), 5);
        checks.due("again", used().again(false, 2, 1, false), 6);
        checks.due("clear", used().clear(false), 2);
        checks.due("tie", used().tie(0, 0, false), true);
        checks.due("draft", used().draft(5, 0, 0), 2);
        checks.due("colour", used().colour(true, 0, 1), 3);
        checks.due("weave", used().weave(30), 2);
        checks.due("unweave", Checks.thrownBy(() -> used().unweave(2)), "nothing");
        checks.due("over", used().over(1, 1), 1);
        checks.due("seen", used().seen(0, 0, true), 5);
        checks.due("longest", used().longest(100, true), 1);
        checks.due("layers", used().layers(), 1);
        checks.due("layer", used().layer(101), 0);
        checks.due("period", used().period(true), 2);
        checks.due("picture", Checks.thrownBy(() -> used().picture(30, 30)), "nothing");
        checks.due("paint", used().paint(1, 1, false), true);
        checks.due("factor", used().factor(true), 202);
    }

    private static void lastRefusals() {
        checks.state("run", () -> used().run(true, 0, 0));
        checks.argument("run", () -> used().run(true, 12, 0));
        checks.state("again", () -> used().again(true, 1, 1, false));
        checks.argument("again", () -> used().again(false, 5, 1, false));
        checks.state("clear", () -> used().clear(true));
        checks.argument("tie", () -> used().tie(0, 12, true));
        checks.argument("draft", () -> used().draft(6, 0, 0));
        checks.argument("colour", () -> used().colour(true, 30, 0));
        checks.argument("weave", () -> used().weave(-1));
        checks.argument("unweave", () -> used().unweave(3));
        checks.index("over", () -> used().over(0, 2));
        checks.index("seen", () -> used().seen(2, 0, true));
        checks.index("longest", () -> used().longest(102, true));
        checks.index("layer", () -> used().layer(2));
        checks.argument("picture", () -> used().picture(31, 1));
        checks.index("paint", () -> used().paint(2, 0, true));
    }

    /** A loom with all calls but one behind it, refused ones among them. */
    private static ShaftLoom used() {
        ShaftLoom loom = prepared();
        for (int call = PREPARED; call < CALLS - 1; call++) {
            switch (call % 5) {
                case 0:
                    loom.layers();
                    break;
                case 1:
                    Checks.thrownBy(() -> loom.run(true, 0, 0));
                    break;
                case 2:
                    loom.colour(true, 0, 3);
                    break;
                case 3:
                    Checks.thrownBy(() -> loom.over(2, 2));
                    break;
                default:
                    loom.factor(false);
            }
        }
        return loom;
    }

    /** 11 calls: 2 ends, 4 picks, 2 of them woven as plain weave, and a picture like it. */
    private static ShaftLoom prepared() {
        ShaftLoom loom = new ShaftLoom();
        loom.run(true, 0, 1);
        loom.run(false, 0, 1);
        loom.run(false, 2, 3);
        loom.tie(0, 0, true);
        loom.tie(1, 1, true);
        loom.colour(true, 0, 3);
        loom.colour(false, 0, 5);
        loom.picture(2, 2);
        loom.paint(0, 0, true);
        loom.paint(1, 1, true);
        loom.weave(2);
        return loom;
    }

    private static void growAndShrink() {
        ShaftLoom loom = new ShaftLoom();
        loom.run(true, 0, 11);
        for (int round = 0; round < 127; round++) {
            checks.due("run in round " + round, loom.run(false, 11, 0), 12);
            checks.due("weave in round " + round, loom.weave(30), 12);
            loom.unweave(12);
            checks.due("clear in round " + round, loom.clear(false), 0);
        }
    }

    private static void dearestCalls() {
        // a flat cloth takes 6 calls
        ShaftLoom apart = Looms.flat(30, 30, true);
        for (int call = 6; call < CALLS; call++) {
            checks.due("the most layers", apart.layers(), 60);
        }
        ShaftLoom adopted = new ShaftLoom();
        adopted.picture(30, 30);
        for (int call = 1; call < CALLS; call++) {
            checks.due("the largest picture", adopted.factor(true), 101);
        }
    }

    private static void oneCall() {
        checks.due("the first call", new ShaftLoom().run(true, 11, 0), 12);
        checks.due("the first call", new ShaftLoom().factor(true), 101);
        checks.state("the first call", () -> new ShaftLoom().layers());
    }
}
