/** Promises 1 to 7: a new object, run, again, clear, tie, draft, colour. */
public final class DraftTest {
    private static final Checks checks = new Checks("DraftTest");
    private static final int[] WRONG_KINDS = {-1, 12, Integer.MIN_VALUE, Integer.MAX_VALUE};

    public static void main(String[] args) {
        newObject();
        runs();
        wrongRuns();
        fullRows();
        againRepeats();
        againTurns();
        wrongAgain();
        clears();
        ties();
        drafts();
        colours();
        checks.end();
    }

    private static void newObject() {
        ShaftLoom loom = new ShaftLoom();
        for (int what = 3; what <= 5; what++) {
            checks.due("new draft(" + what + ")", loom.draft(what, 0, 0), 0);
        }
        checks.due("new shaft of end 0", loom.draft(0, 0, 0), ShaftLoom.NONE);
        checks.due("new treadle of pick 0", loom.draft(1, 0, 0), ShaftLoom.NONE);
        for (int shaft = 0; shaft < 12; shaft++) {
            for (int treadle = 0; treadle < 12; treadle++) {
                checks.due("new tie " + shaft + " " + treadle, loom.draft(2, shaft, treadle), 0);
            }
        }
        for (int i = 0; i < 30; i++) {
            checks.due("new colour of end " + i, loom.colour(true, i, 0), 0);
            checks.due("new colour of pick " + i, loom.colour(false, i, 0), 0);
        }
        checks.index("new picture has one end", () -> loom.paint(1, 0, true));
        checks.index("new picture has one pick", () -> loom.paint(0, 1, true));
        checks.due("new picture is not painted", loom.paint(0, 0, false), false);
    }

    private static void runs() {
        for (boolean warp : new boolean[] {true, false}) {
            ShaftLoom loom = new ShaftLoom();
            checks.due("run up", loom.run(warp, 2, 5), 4);
            checks.due("run down", loom.run(warp, 11, 9), 7);
            checks.due("run of one", loom.run(warp, 7, 7), 8);
            Looms.dueRow(checks, loom, warp, 2, 3, 4, 5, 11, 10, 9, 7);
            Looms.dueRow(checks, loom, !warp);
        }
        ShaftLoom whole = new ShaftLoom();
        checks.due("whole run up", whole.run(true, 0, 11), 12);
        checks.due("whole run down", whole.run(true, 11, 0), 24);
        Looms.dueRow(checks, whole, true, 0, 1, 2, 3, 4, 5, 6, 7, 8, 9, 10, 11, 11, 10, 9, 8, 7, 6, 5, 4, 3, 2, 1, 0);
    }

    private static void wrongRuns() {
        for (boolean warp : new boolean[] {true, false}) {
            ShaftLoom loom = new ShaftLoom();
            for (int wrong : WRONG_KINDS) {
                checks.argument("run from " + wrong, () -> loom.run(warp, wrong, 0));
                checks.argument("run to " + wrong, () -> loom.run(warp, 0, wrong));
                checks.argument("run all at " + wrong, () -> loom.run(warp, wrong, wrong));
            }
            Looms.dueRow(checks, loom, warp);
        }
        ShaftLoom woven = woven();
        checks.state("run of the warp, woven", () -> woven.run(true, 0, 0));
        checks.argument("wrong run of the warp, woven", () -> woven.run(true, 12, 0));
        Looms.dueRow(checks, woven, true, 0, 1);
        checks.due("run of the treadling, woven", woven.run(false, 3, 3), 4);
        Looms.dueRow(checks, woven, false, 0, 1, 2, 3);
        woven.unweave(1);
        checks.state("run of the warp, one woven", () -> woven.run(true, 0, 0));
        checks.state("warp again, one woven", () -> woven.again(true, 1, 1, false));
        woven.unweave(1);
        checks.due("run of the warp, no more woven", woven.run(true, 5, 5), 3);
    }

    private static void fullRows() {
        for (boolean warp : new boolean[] {true, false}) {
            ShaftLoom loom = new ShaftLoom();
            loom.run(warp, 0, 9);
            loom.run(warp, 0, 9);
            checks.state("run to 31", () -> loom.run(warp, 0, 10));
            checks.due("nothing was appended", loom.draft(warp ? 3 : 4, 0, 0), 20);
            checks.due("run to 30", loom.run(warp, 9, 0), 30);
            checks.state("run when full", () -> loom.run(warp, 0, 0));
            checks.argument("wrong run when full", () -> loom.run(warp, 0, 12));
            checks.state("again when full", () -> loom.again(warp, 1, 1, false));
            checks.state("turned when full", () -> loom.again(warp, 2, 0, true));
            checks.due("again, 0 times when full", loom.again(warp, 30, 0, false), 30);
            checks.due("turned, one alone when full", loom.again(warp, 1, 9, true), 30);
            checks.due("last of the full row", loom.draft(warp ? 0 : 1, 29, 0), 0);
            checks.due("behind the full row", loom.draft(warp ? 0 : 1, 30, 0), ShaftLoom.NONE);
        }
    }

    private static void againRepeats() {
        for (boolean warp : new boolean[] {true, false}) {
            ShaftLoom loom = new ShaftLoom();
            loom.run(warp, 1, 4);
            checks.due("last 3 twice", loom.again(warp, 3, 2, false), 10);
            Looms.dueRow(checks, loom, warp, 1, 2, 3, 4, 2, 3, 4, 2, 3, 4);
            checks.due("last 1 three times", loom.again(warp, 1, 3, false), 13);
            checks.due("0 times", loom.again(warp, 5, 0, false), 13);
            Looms.dueRow(checks, loom, warp, 1, 2, 3, 4, 2, 3, 4, 2, 3, 4, 4, 4, 4);
            checks.due("all once more", loom.again(warp, 13, 1, false), 26);
            checks.state("to 31", () -> loom.again(warp, 5, 1, false));
            checks.due("to 30", loom.again(warp, 2, 2, false), 30);
        }
    }

    private static void againTurns() {
        for (boolean warp : new boolean[] {true, false}) {
            ShaftLoom loom = new ShaftLoom();
            loom.run(warp, 1, 4);
            checks.due("all turned", loom.again(warp, 4, 7, true), 7);
            Looms.dueRow(checks, loom, warp, 1, 2, 3, 4, 3, 2, 1);
            checks.due("3 turned, n below 0", loom.again(warp, 3, -1, true), 9);
            Looms.dueRow(checks, loom, warp, 1, 2, 3, 4, 3, 2, 1, 2, 3);
            checks.due("1 turned, n far off", loom.again(warp, 1, Integer.MAX_VALUE, true), 9);
            loom.again(warp, 9, 1, false);
            checks.state("turned to 31", () -> loom.again(warp, 14, 0, true));
            checks.due("turned to 30", loom.again(warp, 13, 0, true), 30);
        }
    }

    private static void wrongAgain() {
        for (boolean warp : new boolean[] {true, false}) {
            ShaftLoom loom = new ShaftLoom();
            checks.argument("again of none", () -> loom.again(warp, 1, 1, false));
            checks.argument("again of 0 of none", () -> loom.again(warp, 0, 1, false));
            loom.run(warp, 0, 2);
            for (boolean turned : new boolean[] {true, false}) {
                for (int wrong : new int[] {0, -1, 4, Integer.MIN_VALUE, Integer.MAX_VALUE}) {
                    checks.argument("again of " + wrong, () -> loom.again(warp, wrong, 1, turned));
                }
            }
            checks.argument("times below 0", () -> loom.again(warp, 1, -1, false));
            checks.argument("times far below 0", () -> loom.again(warp, 2, Integer.MIN_VALUE, false));
            checks.state("times far off", () -> loom.again(warp, 1, Integer.MAX_VALUE, false));
            // 2 times the one is the least int, 3 times the other one is -1
            checks.state("times that wrap far below 0", () -> loom.again(warp, 2, 1 << 30, false));
            checks.state("times that wrap to -1", () -> loom.again(warp, 3, 1431655765, false));
            Looms.dueRow(checks, loom, warp, 0, 1, 2);
        }
        ShaftLoom woven = woven();
        checks.state("warp again, woven", () -> woven.again(true, 1, 1, false));
        checks.state("warp again 0 times, woven", () -> woven.again(true, 1, 0, false));
        checks.state("warp turned, woven", () -> woven.again(true, 1, 0, true));
        checks.argument("wrong again of the warp, woven", () -> woven.again(true, 3, 1, false));
        checks.argument("warp again below 0, woven", () -> woven.again(true, 1, -1, false));
        checks.due("treadling again, woven", woven.again(false, 3, 1, false), 6);
        Looms.dueRow(checks, woven, false, 0, 1, 2, 0, 1, 2);
    }

    private static void clears() {
        ShaftLoom loom = new ShaftLoom();
        checks.due("clear of no threading", loom.clear(true), 0);
        checks.due("clear of no treadling", loom.clear(false), 0);
        loom.run(true, 0, 3);
        loom.run(false, 4, 8);
        checks.due("clear of the threading", loom.clear(true), 0);
        Looms.dueRow(checks, loom, true);
        Looms.dueRow(checks, loom, false, 4, 5, 6, 7, 8);
        loom.run(true, 1, 2);
        checks.due("clear of the treadling", loom.clear(false), 0);
        Looms.dueRow(checks, loom, false);
        Looms.dueRow(checks, loom, true, 1, 2);

        ShaftLoom woven = woven();
        checks.state("clear of the threading, woven", () -> woven.clear(true));
        Looms.dueRow(checks, woven, true, 0, 1);
        checks.due("clear of the treadling behind the woven", woven.clear(false), 2);
        Looms.dueRow(checks, woven, false, 0, 1);
        checks.due("woven as before", woven.draft(5, 0, 0), 2);
        woven.unweave(1);
        checks.due("clear of the treadling, one off", woven.clear(false), 1);
        checks.state("clear of the threading, one woven", () -> woven.clear(true));
        woven.unweave(1);
        checks.due("clear of the threading, all off", woven.clear(true), 0);
        checks.due("clear of the treadling, all off", woven.clear(false), 0);
    }

    private static void ties() {
        ShaftLoom loom = new ShaftLoom();
        checks.due("tie", loom.tie(11, 0, true), false);
        checks.due("tie once more", loom.tie(11, 0, true), true);
        checks.due("the other way round is another", loom.tie(0, 11, false), false);
        checks.due("tied", loom.draft(2, 11, 0), 1);
        checks.due("a neighbour", loom.draft(2, 11, 1), 0);
        checks.due("untie", loom.tie(11, 0, false), true);
        checks.due("untie once more", loom.tie(11, 0, false), false);
        checks.due("untied", loom.draft(2, 11, 0), 0);
        for (int wrong : WRONG_KINDS) {
            checks.argument("tie of shaft " + wrong, () -> loom.tie(wrong, 0, true));
            checks.argument("tie to treadle " + wrong, () -> loom.tie(0, wrong, true));
        }
        ShaftLoom woven = woven();
        checks.due("tie while woven", woven.tie(0, 0, true), false);
    }

    private static void drafts() {
        ShaftLoom loom = woven();
        loom.tie(3, 4, true);
        checks.due("ends", loom.draft(3, -7, 99), 2);
        checks.due("picks", loom.draft(4, -7, 99), 3);
        checks.due("woven picks", loom.draft(5, -7, 99), 2);
        checks.due("shaft, j not looked at", loom.draft(0, 1, -7), 1);
        checks.due("treadle, j not looked at", loom.draft(1, 2, -7), 2);
        checks.due("tie", loom.draft(2, 3, 4), 1);
        checks.due("no tie", loom.draft(2, 4, 3), 0);
        for (int wrong : new int[] {-1, 2, Integer.MIN_VALUE, Integer.MAX_VALUE}) {
            checks.due("shaft of end " + wrong, loom.draft(0, wrong, 0), ShaftLoom.NONE);
        }
        for (int wrong : new int[] {-1, 3, Integer.MIN_VALUE, Integer.MAX_VALUE}) {
            checks.due("treadle of pick " + wrong, loom.draft(1, wrong, 0), ShaftLoom.NONE);
        }
        for (int wrong : WRONG_KINDS) {
            checks.due("tie of shaft " + wrong, loom.draft(2, wrong, 0), ShaftLoom.NONE);
            checks.due("tie to treadle " + wrong, loom.draft(2, 0, wrong), ShaftLoom.NONE);
        }
        for (int wrong : new int[] {-1, 6, Integer.MIN_VALUE, Integer.MAX_VALUE}) {
            checks.argument("draft of " + wrong, () -> loom.draft(wrong, 0, 0));
        }
    }

    private static void colours() {
        ShaftLoom loom = new ShaftLoom();
        checks.due("end 29", loom.colour(true, 29, 9), 0);
        checks.due("end 29 again", loom.colour(true, 29, 4), 9);
        checks.due("pick 29 has its own", loom.colour(false, 29, 7), 0);
        checks.due("end 29 keeps its own", loom.colour(true, 29, 0), 4);
        checks.due("pick 29 keeps its own", loom.colour(false, 29, 0), 7);
        for (boolean warp : new boolean[] {true, false}) {
            for (int wrong : new int[] {-1, 30, 100, Integer.MIN_VALUE, Integer.MAX_VALUE}) {
                checks.argument("colour of " + wrong, () -> loom.colour(warp, wrong, 0));
            }
            for (int wrong : new int[] {-1, 10, Integer.MIN_VALUE, Integer.MAX_VALUE}) {
                checks.argument("colour " + wrong, () -> loom.colour(warp, 0, wrong));
            }
            checks.due("colour after wrong ones", loom.colour(warp, 0, 0), 0);
        }
        loom.colour(true, 0, 3);
        loom.run(true, 0, 0);
        loom.clear(true);
        loom.factor(true);
        checks.due("colour stays whether the end is there or not", loom.colour(true, 0, 0), 3);
    }

    /** Two ends, a treadling of three, two of them woven. */
    private static ShaftLoom woven() {
        ShaftLoom loom = new ShaftLoom();
        loom.run(true, 0, 1);
        loom.run(false, 0, 2);
        loom.weave(2);
        return loom;
    }
}
