/** Sentence by sentence, the boundary cases of promises 1 to 7 and of the terms that they rest on. */
public final class DraftBoundsTest {
    private static final Checks checks = new Checks("DraftBoundsTest");
    private static final boolean[] BOTH = {true, false};

    public static void main(String[] args) {
        checks.each(
                DraftBoundsTest::none,
                DraftBoundsTest::newLoom,
                DraftBoundsTest::newPicture,
                DraftBoundsTest::shaftsAndTreadles,
                DraftBoundsTest::rowsOfThirty,
                DraftBoundsTest::runsOfOneAndOfAll,
                DraftBoundsTest::runBeyondKinds,
                DraftBoundsTest::runBeyondThirty,
                DraftBoundsTest::runOfWarpWhileWoven,
                DraftBoundsTest::againOfOneAndOfAll,
                DraftBoundsTest::againTurnedOfOneAndOfAll,
                DraftBoundsTest::againOfTooManyOrNone,
                DraftBoundsTest::againTimes,
                DraftBoundsTest::againBeyondThirty,
                DraftBoundsTest::againTurnedBeyondThirty,
                DraftBoundsTest::againThatWraps,
                DraftBoundsTest::againOfWarpWhileWoven,
                DraftBoundsTest::clearEmptyAndFull,
                DraftBoundsTest::clearBehindWoven,
                DraftBoundsTest::clearOfWarpWhileWoven,
                DraftBoundsTest::tieAnswers,
                DraftBoundsTest::tieAll,
                DraftBoundsTest::tieBeyondKinds,
                DraftBoundsTest::draftOfEnds,
                DraftBoundsTest::draftOfPicks,
                DraftBoundsTest::draftOfTies,
                DraftBoundsTest::draftCounts,
                DraftBoundsTest::draftOfAnotherWhat,
                DraftBoundsTest::draftLooksAway,
                DraftBoundsTest::colourAnswers,
                DraftBoundsTest::colourOfAllNumbers,
                DraftBoundsTest::colourBeyondThirty,
                DraftBoundsTest::colourBeyondTen);
        checks.end();
    }

    private static int count(ShaftLoom loom, boolean warp) {
        return loom.draft(warp ? 3 : 4, 0, 0);
    }

    private static int kind(ShaftLoom loom, boolean warp, int i) {
        return loom.draft(warp ? 0 : 1, i, 0);
    }

    private static ShaftLoom rowOf(boolean warp, int length) {
        return warp ? Looms.sized(length, 0) : Looms.sized(0, length);
    }

    private static String name(boolean warp) {
        return warp ? "threading" : "treadling";
    }

    private static void none() {
        checks.sentence("Terms: NONE = -1: There is none.");
        checks.due("NONE", ShaftLoom.NONE, -1);
    }

    private static void newLoom() {
        checks.sentence("Promise 1: Nothing is threaded, trod, tied or painted");
        ShaftLoom loom = new ShaftLoom();
        checks.due("ends", loom.draft(3, 0, 0), 0);
        checks.due("picks", loom.draft(4, 0, 0), 0);
        checks.due("woven", loom.draft(5, 0, 0), 0);
        for (int shaft = 0; shaft <= 11; shaft++) {
            for (int treadle = 0; treadle <= 11; treadle++) {
                checks.due("tie " + shaft + " " + treadle, loom.draft(2, shaft, treadle), 0);
            }
        }
        checks.due("painted", new ShaftLoom().paint(0, 0, true), false);
        checks.due("two looms have nothing in common", twoLooms(), 0);
    }

    private static int twoLooms() {
        Looms.busy();
        ShaftLoom second = new ShaftLoom();
        return second.draft(3, 0, 0) + second.draft(4, 0, 0) + second.draft(2, 1, 11) + second.colour(true, 0, 5);
    }

    private static void newPicture() {
        checks.sentence("Promise 1: the picture has one end and one pick");
        Refusals fresh = new Refusals(checks, "new", ShaftLoom::new);
        fresh.indexBeyond("end", 0, 0, (loom, end) -> loom.paint(end, 0, true));
        fresh.indexBeyond("pick", 0, 0, (loom, pick) -> loom.paint(0, pick, true));
        checks.due("its draft", new ShaftLoom().factor(false), 101);
        ShaftLoom loom = new ShaftLoom();
        loom.factor(true);
        Looms.dueRow(checks, loom, true, 0);
        Looms.dueRow(checks, loom, false, 0);
    }

    private static void shaftsAndTreadles() {
        checks.sentence("Terms: SHAFTS and TREADLES are 0 .. 11");
        for (boolean warp : BOTH) {
            for (int kind = 0; kind <= 11; kind++) {
                ShaftLoom loom = new ShaftLoom();
                checks.due(name(warp) + " of " + kind, loom.run(warp, kind, kind), 1);
                checks.due(name(warp) + " has " + kind, kind(loom, warp, 0), kind);
            }
        }
    }

    private static void rowsOfThirty() {
        checks.sentence("Terms: each at most 30 long, empty at first");
        for (boolean warp : BOTH) {
            ShaftLoom loom = new ShaftLoom();
            checks.due(name(warp) + " is empty", count(loom, warp), 0);
            for (int length = 1; length <= 30; length++) {
                checks.due(name(warp) + " grows", loom.run(warp, length % 12, length % 12), length);
            }
            checks.state(name(warp) + " is full", () -> loom.run(warp, 0, 0));
            checks.due(name(warp) + " stays full", count(loom, warp), 30);
            for (int i = 0; i < 30; i++) {
                checks.due(name(warp) + " at " + i, kind(loom, warp, i), (i + 1) % 12);
            }
            checks.due("the other one is empty", count(loom, !warp), 0);
        }
        ShaftLoom both = Looms.sized(30, 30);
        checks.due("both full, ends", both.draft(3, 0, 0), 30);
        checks.due("both full, picks", both.draft(4, 0, 0), 30);
    }

    private static void runsOfOneAndOfAll() {
        checks.sentence("Promise 2: a run from one shaft or treadle to another one, one by one: how many there are then");
        for (boolean warp : BOTH) {
            for (int from = 0; from <= 11; from++) {
                for (int to = 0; to <= 11; to++) {
                    dueRun(warp, from, to);
                }
            }
        }
    }

    private static void dueRun(boolean warp, int from, int to) {
        ShaftLoom loom = rowOf(warp, 2);
        String what = name(warp) + " run from " + from + " to " + to;
        int length = Math.abs(from - to) + 1;
        checks.due(what, loom.run(warp, from, to), 2 + length);
        for (int i = 0; i < length; i++) {
            checks.due(what + " at " + i, kind(loom, warp, 2 + i), from < to ? from + i : from - i);
        }
        checks.due(what + " has no more", kind(loom, warp, 2 + length), ShaftLoom.NONE);
    }

    private static void runBeyondKinds() {
        checks.sentence("Promise 2: IllegalArgumentException, when one is not 0 .. 11");
        Refusals free = new Refusals(checks, "not woven", Looms::unwoven);
        Refusals woven = new Refusals(checks, "woven", Looms::busy);
        Refusals full = new Refusals(checks, "full", () -> Looms.sized(30, 30));
        for (boolean warp : BOTH) {
            for (Refusals refusals : new Refusals[] {free, woven, full}) {
                refusals.argumentBeyond(name(warp) + " from", 0, 11, (loom, from) -> loom.run(warp, from, 0));
                refusals.argumentBeyond(name(warp) + " from", 0, 11, (loom, from) -> loom.run(warp, from, 11));
                refusals.argumentBeyond(name(warp) + " to", 0, 11, (loom, to) -> loom.run(warp, 0, to));
                refusals.argumentBeyond(name(warp) + " to", 0, 11, (loom, to) -> loom.run(warp, 11, to));
                refusals.argumentBeyond(name(warp) + " both", 0, 11, (loom, at) -> loom.run(warp, at, at));
            }
        }
    }

    private static void runBeyondThirty() {
        checks.sentence("Promise 2: IllegalStateException, when there would be more than 30");
        for (boolean warp : BOTH) {
            for (int length = 1; length <= 12; length++) {
                int last = length - 1;
                String what = "run of " + length;
                checks.due(what + " to 30 up", rowOf(warp, 30 - length).run(warp, 0, last), 30);
                checks.due(what + " to 30 down", rowOf(warp, 30 - length).run(warp, last, 0), 30);
                int before = 31 - length;
                Refusals refusals = new Refusals(checks, name(warp) + " of " + before, () -> rowOf(warp, before));
                refusals.state(what + " to 31 up", loom -> loom.run(warp, 0, last));
                refusals.state(what + " to 31 down", loom -> loom.run(warp, last, 0));
            }
            checks.due("the other row may be full", rowOf(!warp, 30).run(warp, 0, 11), 12);
            Refusals full = new Refusals(checks, name(warp) + " full", () -> Looms.sized(30, 30));
            full.state("the longest run", loom -> loom.run(warp, 11, 0));
        }
    }

    private static void runOfWarpWhileWoven() {
        checks.sentence("Promise 2: IllegalStateException, when (warp) something is woven");
        Refusals one = new Refusals(checks, "one woven", () -> Looms.sizedAndWoven(2, 3, 1));
        one.state("run", loom -> loom.run(true, 0, 0));
        Refusals all = new Refusals(checks, "all woven", () -> Looms.sizedAndWoven(2, 30, 30));
        all.state("run", loom -> loom.run(true, 0, 11));
        ShaftLoom loom = Looms.sizedAndWoven(2, 3, 3);
        checks.due("the treadling behind all that is woven", loom.run(false, 7, 8), 5);
        Looms.dueRow(checks, loom, false, 0, 1, 2, 7, 8);
        loom.unweave(2);
        checks.state("one is left", () -> loom.run(true, 9, 9));
        loom.unweave(1);
        checks.due("nothing is left", loom.run(true, 9, 9), 3);
        checks.due("nothing was thrown", Looms.sizedAndWoven(2, 3, 0).run(true, 9, 9), 3);
    }

    private static void againOfOneAndOfAll() {
        checks.sentence("Promise 3: Appends the last m once more, n times");
        for (boolean warp : BOTH) {
            for (int size = 1; size <= 10; size++) {
                for (int m = 1; m <= size; m++) {
                    for (int n = 0; n <= 20 / m; n++) {
                        dueAgain(warp, size, m, n);
                    }
                }
            }
        }
    }

    private static void dueAgain(boolean warp, int size, int m, int n) {
        ShaftLoom loom = rowOf(warp, size);
        String what = name(warp) + " of " + size + ", " + m + " " + n + " times";
        checks.due(what, loom.again(warp, m, n, false), size + m * n);
        checks.due(what + ", count", count(loom, warp), size + m * n);
        for (int i = 0; i < m * n; i++) {
            checks.due(what + " at " + i, kind(loom, warp, size + i), size - m + i % m);
        }
        checks.due(what + ", before", kind(loom, warp, size - 1), size - 1);
    }

    private static void againTurnedOfOneAndOfAll() {
        checks.sentence("Promise 3: turned: once, from the last but one back to the first of them"
                + " (m - 1 then; n is not looked at)");
        for (boolean warp : BOTH) {
            for (int size = 1; size <= 12; size++) {
                for (int m = 1; m <= size; m++) {
                    for (int n : new int[] {0, 1, 2, 30, -1, Integer.MIN_VALUE, Integer.MAX_VALUE}) {
                        dueTurned(warp, size, m, n);
                    }
                }
            }
        }
    }

    private static void dueTurned(boolean warp, int size, int m, int n) {
        ShaftLoom loom = rowOf(warp, size);
        String what = name(warp) + " of " + size + ", " + m + " turned, n " + n;
        checks.due(what, loom.again(warp, m, n, true), size + m - 1);
        for (int i = 0; i < m - 1; i++) {
            checks.due(what + " at " + i, kind(loom, warp, size + i), size - 2 - i);
        }
        checks.due(what + " has no more", kind(loom, warp, size + m - 1), ShaftLoom.NONE);
    }

    private static void againOfTooManyOrNone() {
        checks.sentence("Promise 3: IllegalArgumentException, when m is not 1 .. how many there are");
        for (boolean warp : BOTH) {
            for (boolean turned : BOTH) {
                for (int size : new int[] {0, 1, 4, 29, 30}) {
                    Refusals refusals = new Refusals(checks, name(warp) + " of " + size, () -> rowOf(warp, size));
                    refusals.argumentBeyond("m", 1, size, (loom, m) -> loom.again(warp, m, 1, turned));
                    refusals.argumentBeyond("m, 0 times", 1, size, (loom, m) -> loom.again(warp, m, 0, turned));
                }
                Refusals other = new Refusals(checks, "the other row has 9", () -> rowOf(!warp, 9));
                other.argument("m 1", loom -> loom.again(warp, 1, 1, turned));
                Refusals woven = new Refusals(checks, "woven", Looms::busy);
                int most = warp ? 5 : 6;
                woven.argumentBeyond("m", 1, most, (loom, m) -> loom.again(warp, m, 1, turned));
            }
        }
    }

    private static void againTimes() {
        checks.sentence("Promise 3: IllegalArgumentException, when n is below 0");
        for (boolean warp : BOTH) {
            Refusals free = new Refusals(checks, "not woven", Looms::unwoven);
            Refusals woven = new Refusals(checks, "woven", Looms::busy);
            Refusals full = new Refusals(checks, "full", () -> Looms.sized(30, 30));
            for (int n : new int[] {-1, -2, Integer.MIN_VALUE, Integer.MIN_VALUE + 1}) {
                String what = name(warp) + " again, n " + n;
                free.argument(what, loom -> loom.again(warp, 1, n, false));
                free.argument(what + " of 4", loom -> loom.again(warp, 4, n, false));
                woven.argument(what, loom -> loom.again(warp, 1, n, false));
                full.argument(what, loom -> loom.again(warp, 30, n, false));
            }
            checks.due("n 0", rowOf(warp, 3).again(warp, 2, 0, false), 3);
            checks.due("n 0 when full", rowOf(warp, 30).again(warp, 30, 0, false), 30);
        }
    }

    private static void againBeyondThirty() {
        checks.sentence("Promise 3: IllegalStateException likewise (more than 30)");
        for (boolean warp : BOTH) {
            for (int m = 1; m <= 15; m++) {
                int times = (30 - m) / m;
                String what = name(warp) + " of " + m + ", again ";
                checks.due(what + times, againOfAll(warp, m, times), m + m * times);
                int tooOften = times + 1;
                int row = m;
                Refusals refusals = new Refusals(checks, what, () -> rowOf(warp, row));
                refusals.state(what + tooOften, loom -> loom.again(warp, row, tooOften, false));
            }
            checks.due("1 to 30", rowOf(warp, 29).again(warp, 1, 1, false), 30);
            checks.due("29 times 1 to 30", rowOf(warp, 1).again(warp, 1, 29, false), 30);
            Refusals one = new Refusals(checks, name(warp) + " of 1", () -> rowOf(warp, 1));
            one.state("30 times 1 to 31", loom -> loom.again(warp, 1, 30, false));
            Refusals sixteen = new Refusals(checks, name(warp) + " of 16", () -> rowOf(warp, 16));
            sixteen.state("15 to 31", loom -> loom.again(warp, 15, 1, false));
            sixteen.state("all to 32", loom -> loom.again(warp, 16, 1, false));
            checks.due("14 to 30", rowOf(warp, 16).again(warp, 14, 1, false), 30);
            Refusals full = new Refusals(checks, name(warp) + " full", () -> rowOf(warp, 30));
            full.state("1 to 31", loom -> loom.again(warp, 1, 1, false));
            full.state("30 to 60", loom -> loom.again(warp, 30, 1, false));
        }
    }

    private static int againOfAll(boolean warp, int m, int times) {
        return rowOf(warp, m).again(warp, m, times, false);
    }

    private static void againTurnedBeyondThirty() {
        checks.sentence("Promise 3: IllegalStateException likewise (more than 30, turned)");
        for (boolean warp : BOTH) {
            for (int size = 16; size <= 29; size++) {
                int row = size;
                String what = name(warp) + " of " + size + " turned";
                checks.due(what + " to 30", rowOf(warp, size).again(warp, 31 - size, 0, true), 30);
                Refusals refusals = new Refusals(checks, what, () -> rowOf(warp, row));
                refusals.state("to 31", loom -> loom.again(warp, 32 - row, 0, true));
                refusals.state("all", loom -> loom.again(warp, row, 0, true));
            }
            checks.due("all 15 turned", rowOf(warp, 15).again(warp, 15, 0, true), 29);
            checks.due("1 turned when full", rowOf(warp, 30).again(warp, 1, 0, true), 30);
            Refusals full = new Refusals(checks, name(warp) + " full", () -> rowOf(warp, 30));
            full.state("2 turned", loom -> loom.again(warp, 2, 0, true));
            full.state("all turned", loom -> loom.again(warp, 30, 0, true));
        }
    }

    private static void againThatWraps() {
        checks.sentence("Promise 3: IllegalStateException likewise (m times n beyond an int)");
        for (boolean warp : BOTH) {
            Refusals refusals = new Refusals(checks, name(warp) + " of 8", () -> rowOf(warp, 8));
            for (int m = 1; m <= 8; m++) {
                int last = m;
                refusals.state(m + " the most times", loom -> loom.again(warp, last, Integer.MAX_VALUE, false));
            }
            refusals.state("4 times it is 0 in an int", loom -> loom.again(warp, 4, 1 << 30, false));
            refusals.state("8 times it is 0 in an int", loom -> loom.again(warp, 8, 1 << 29, false));
            refusals.state("8 times it is 8 in an int", loom -> loom.again(warp, 8, (1 << 29) + 1, false));
            refusals.state("3 times it is 2 in an int", loom -> loom.again(warp, 3, 1431655766, false));
            refusals.state("7 times it is 3 in an int", loom -> loom.again(warp, 7, 613566757, false));
            refusals.state("2 times it is the least int", loom -> loom.again(warp, 2, 1 << 30, false));
        }
    }

    private static void againOfWarpWhileWoven() {
        checks.sentence("Promise 3: IllegalStateException likewise ((warp) something is woven)");
        Refusals one = new Refusals(checks, "one woven", () -> Looms.sizedAndWoven(3, 3, 1));
        one.state("again", loom -> loom.again(true, 1, 1, false));
        one.state("again of all", loom -> loom.again(true, 3, 2, false));
        one.state("again, 0 times", loom -> loom.again(true, 1, 0, false));
        one.state("turned", loom -> loom.again(true, 3, 0, true));
        one.state("turned, of one", loom -> loom.again(true, 1, 0, true));
        Refusals all = new Refusals(checks, "all woven", () -> Looms.sizedAndWoven(3, 30, 30));
        all.state("again", loom -> loom.again(true, 1, 1, false));
        ShaftLoom loom = Looms.sizedAndWoven(3, 3, 3);
        checks.due("treadling again behind all that is woven", loom.again(false, 2, 1, false), 5);
        checks.due("treadling turned", loom.again(false, 3, 0, true), 7);
        Looms.dueRow(checks, loom, false, 0, 1, 2, 1, 2, 1, 2);
        loom.unweave(3);
        checks.due("threading again when nothing is woven", loom.again(true, 3, 1, false), 6);
    }

    private static void clearEmptyAndFull() {
        checks.sentence("Promise 4: The threading or the treadling is empty");
        for (boolean warp : BOTH) {
            for (int size : new int[] {0, 1, 29, 30}) {
                ShaftLoom loom = Looms.sized(size, size);
                checks.due("clear the " + name(warp) + " of " + size, loom.clear(warp), 0);
                checks.due("count", count(loom, warp), 0);
                checks.due("none is there", kind(loom, warp, 0), ShaftLoom.NONE);
                checks.due("the other row stays", count(loom, !warp), size);
                checks.due("once more", loom.clear(warp), 0);
                checks.due("room again", loom.run(warp, 11, 0), 12);
                checks.due("begins anew", kind(loom, warp, 0), 11);
            }
        }
    }

    private static void clearBehindWoven() {
        checks.sentence("Promise 4: of the treadling what is not woven goes alone: how many are left");
        for (int picks : new int[] {1, 2, 5, 29, 30}) {
            for (int woven : new int[] {0, 1, picks / 2, picks - 1, picks}) {
                ShaftLoom loom = Looms.sizedAndWoven(3, picks, woven);
                String what = woven + " woven of " + picks;
                checks.due(what + ", left", loom.clear(false), woven);
                checks.due(what + ", picks", loom.draft(4, 0, 0), woven);
                checks.due(what + ", woven", loom.draft(5, 0, 0), woven);
                checks.due(what + ", ends", loom.draft(3, 0, 0), 3);
                checks.due(what + ", last", loom.draft(1, woven - 1, 0), woven == 0 ? ShaftLoom.NONE : (woven - 1) % 12);
                checks.due(what + ", behind", loom.draft(1, woven, 0), ShaftLoom.NONE);
                checks.due(what + ", no more to weave", loom.weave(30), 0);
            }
        }
    }

    private static void clearOfWarpWhileWoven() {
        checks.sentence("Promise 4: IllegalStateException, when warp is asked for and something is woven");
        Refusals one = new Refusals(checks, "one woven", () -> Looms.sizedAndWoven(3, 3, 1));
        one.state("clear", loom -> loom.clear(true));
        Refusals all = new Refusals(checks, "all woven", () -> Looms.sizedAndWoven(30, 30, 30));
        all.state("clear", loom -> loom.clear(true));
        ShaftLoom loom = Looms.sizedAndWoven(3, 3, 2);
        checks.due("the treadling while woven", loom.clear(false), 2);
        loom.unweave(1);
        checks.state("one left", () -> loom.clear(true));
        loom.unweave(1);
        checks.due("nothing left", loom.clear(true), 0);
        checks.due("the treadling that is not woven", Looms.sized(3, 3).clear(true), 0);
    }

    private static void tieAnswers() {
        checks.sentence("Promise 5: A shaft is tied to a treadle, or not: whether it was");
        for (int place = 0; place < 144; place++) {
            int shaft = place / 12;
            int treadle = place % 12;
            ShaftLoom loom = new ShaftLoom();
            checks.due("off, was not", loom.tie(shaft, treadle, false), false);
            checks.due("on, was not", loom.tie(shaft, treadle, true), false);
            checks.due("on, was", loom.tie(shaft, treadle, true), true);
            checks.due("is", loom.draft(2, shaft, treadle), 1);
            checks.due("no other one", tied(loom), 1);
            checks.due("off, was", loom.tie(shaft, treadle, false), true);
            checks.due("none", tied(loom), 0);
        }
    }

    private static int tied(ShaftLoom loom) {
        int tied = 0;
        for (int place = 0; place < 144; place++) {
            tied += loom.draft(2, place / 12, place % 12);
        }
        return tied;
    }

    private static void tieAll() {
        checks.sentence("Terms: The TIE-UP says which shafts are TIED to which treadles (none at first)");
        checks.due("none at first", tied(new ShaftLoom()), 0);
        ShaftLoom loom = new ShaftLoom();
        for (int place = 0; place < 144; place++) {
            checks.due("not yet tied", loom.tie(place / 12, place % 12, true), false);
        }
        checks.due("all of them", tied(loom), 144);
        checks.due("one off", loom.tie(11, 11, false), true);
        checks.due("all others", tied(loom), 143);
    }

    private static void tieBeyondKinds() {
        checks.sentence("Promise 5: IllegalArgumentException, when one is none");
        Refusals refusals = new Refusals(checks, "busy", Looms::busy);
        for (boolean on : BOTH) {
            refusals.argumentBeyond("shaft", 0, 11, (loom, shaft) -> loom.tie(shaft, 0, on));
            refusals.argumentBeyond("shaft", 0, 11, (loom, shaft) -> loom.tie(shaft, 11, on));
            refusals.argumentBeyond("treadle", 0, 11, (loom, treadle) -> loom.tie(0, treadle, on));
            refusals.argumentBeyond("treadle", 0, 11, (loom, treadle) -> loom.tie(11, treadle, on));
            refusals.argumentBeyond("both", 0, 11, (loom, kind) -> loom.tie(kind, kind, on));
            // an int of bits has a place for these, or finds 0 and 1 for 32 and 33
            for (int place : new int[] {13, 31, 32, 33, 43, -32, -21}) {
                refusals.argument("treadle " + place, loom -> loom.tie(1, place, on));
                refusals.argument("shaft " + place, loom -> loom.tie(place, 1, on));
            }
        }
    }

    private static void draftOfEnds() {
        checks.sentence("Promise 6: the shaft of an end (what 0); NONE, when there is no such end");
        dueRowBounds(true);
    }

    private static void draftOfPicks() {
        checks.sentence("Promise 6: the treadle of a pick (1); NONE, when there is no such pick");
        dueRowBounds(false);
        ShaftLoom loom = Looms.sizedAndWoven(2, 5, 2);
        checks.due("a pick that is not woven", loom.draft(1, 4, 0), 4);
        checks.due("behind the plan", loom.draft(1, 5, 0), ShaftLoom.NONE);
        checks.due("not the thread's number", loom.draft(1, 100, 0), ShaftLoom.NONE);
    }

    private static void dueRowBounds(boolean warp) {
        for (int size : new int[] {0, 1, 29, 30}) {
            ShaftLoom loom = rowOf(warp, size);
            for (int i : Refusals.beyond(0, size - 1)) {
                checks.due(name(warp) + " of " + size + " at " + i, kind(loom, warp, i), ShaftLoom.NONE);
            }
            for (int i = 0; i < size; i++) {
                checks.due(name(warp) + " of " + size + " at " + i, kind(loom, warp, i), i % 12);
            }
        }
        ShaftLoom cleared = rowOf(warp, 30);
        cleared.clear(warp);
        cleared.run(warp, 4, 4);
        checks.due("gone with clear", kind(cleared, warp, 1), ShaftLoom.NONE);
    }

    private static void draftOfTies() {
        checks.sentence("Promise 6: 1 if shaft i is tied to treadle j, else 0 (2); NONE, when there is"
                + " no such shaft or treadle");
        ShaftLoom loom = new ShaftLoom();
        for (int place = 0; place < 144; place++) {
            loom.tie(place / 12, place % 12, true);
        }
        loom.tie(11, 0, false);
        checks.due("first", loom.draft(2, 0, 0), 1);
        checks.due("last", loom.draft(2, 11, 11), 1);
        checks.due("first treadle of the last shaft", loom.draft(2, 11, 0), 0);
        checks.due("last treadle of the first shaft", loom.draft(2, 0, 11), 1);
        for (int none : Refusals.beyond(0, 11)) {
            for (int there : new int[] {0, 11}) {
                checks.due("shaft " + none, loom.draft(2, none, there), ShaftLoom.NONE);
                checks.due("treadle " + none, loom.draft(2, there, none), ShaftLoom.NONE);
            }
            checks.due("both " + none, loom.draft(2, none, none), ShaftLoom.NONE);
        }
        for (int none : new int[] {31, 32, 33, -32}) {
            checks.due("shaft " + none, loom.draft(2, none, 1), ShaftLoom.NONE);
            checks.due("treadle " + none, loom.draft(2, 1, none), ShaftLoom.NONE);
        }
    }

    private static void draftCounts() {
        checks.sentence("Promise 6: how many ends (3), picks (4), woven picks (5)");
        for (int ends : new int[] {1, 29, 30}) {
            for (int picks : new int[] {0, 1, 29, 30}) {
                for (int woven : new int[] {0, picks / 2, picks}) {
                    ShaftLoom loom = Looms.sizedAndWoven(ends, picks, woven);
                    checks.due("ends", loom.draft(3, 0, 0), ends);
                    checks.due("picks", loom.draft(4, 0, 0), picks);
                    checks.due("woven", loom.draft(5, 0, 0), woven);
                }
            }
        }
        checks.due("no ends", Looms.sized(0, 5).draft(3, 0, 0), 0);
    }

    private static void draftOfAnotherWhat() {
        checks.sentence("Promise 6: IllegalArgumentException, for another what");
        Refusals refusals = new Refusals(checks, "busy", Looms::busy);
        refusals.argumentBeyond("what", 0, 5, (loom, what) -> loom.draft(what, 0, 0));
        refusals.argumentBeyond("what, no such i and j", 0, 5, (loom, what) -> loom.draft(what, -1, 99));
        Refusals fresh = new Refusals(checks, "new", ShaftLoom::new);
        fresh.argumentBeyond("what", 0, 5, (loom, what) -> loom.draft(what, 0, 0));
    }

    private static void draftLooksAway() {
        checks.sentence("Promise 6: (j is looked at for 2 alone, i for 0 to 2.)");
        ShaftLoom loom = Looms.sizedAndWoven(4, 5, 2);
        for (int any : Refusals.beyond(0, 11)) {
            checks.due("shaft, j " + any, loom.draft(0, 3, any), 3);
            checks.due("treadle, j " + any, loom.draft(1, 4, any), 4);
            checks.due("no end, j " + any, loom.draft(0, 4, any), ShaftLoom.NONE);
            checks.due("no pick, j " + any, loom.draft(1, 5, any), ShaftLoom.NONE);
            for (int other : new int[] {0, any}) {
                checks.due("ends", loom.draft(3, any, other), 4);
                checks.due("picks", loom.draft(4, any, other), 5);
                checks.due("woven", loom.draft(5, any, other), 2);
                checks.due("ends", loom.draft(3, other, any), 4);
                checks.due("picks", loom.draft(4, other, any), 5);
                checks.due("woven", loom.draft(5, other, any), 2);
            }
        }
    }

    private static void colourAnswers() {
        checks.sentence("Promise 7: A colour of an end (warp) or a pick: what it was");
        for (boolean warp : BOTH) {
            for (int i = 0; i < 30; i++) {
                ShaftLoom loom = new ShaftLoom();
                for (int c = 0; c <= 9; c++) {
                    checks.due("colour of " + i, loom.colour(warp, i, c), Math.max(0, c - 1));
                }
                checks.due("back to 0", loom.colour(warp, i, 0), 9);
                checks.due("is 0", loom.colour(warp, i, 0), 0);
            }
        }
    }

    private static void colourOfAllNumbers() {
        checks.sentence("Terms: A colour (0 .. 9, at first 0) belongs to each end, and to each pick, by its number,"
                + " whether it is there or not");
        ShaftLoom loom = new ShaftLoom();
        for (int i = 0; i < 30; i++) {
            checks.due("end " + i + " at first", loom.colour(true, i, i % 10), 0);
            checks.due("pick " + i + " at first", loom.colour(false, i, 9 - i % 10), 0);
        }
        Looms.lengthen(loom, true, 30);
        Looms.lengthen(loom, false, 30);
        loom.weave(30);
        for (int i = 0; i < 30; i++) {
            checks.due("pick " + i + " coloured before it was there", loom.seen(0, i, false), 9 - i % 10);
            checks.due("end " + i + " coloured before it was there", loom.seen(i, 0, true), i % 10);
        }
        loom.unweave(30);
        loom.clear(true);
        loom.clear(false);
        for (int i = 0; i < 30; i++) {
            checks.due("end " + i + " that is gone", loom.colour(true, i, 0), i % 10);
            checks.due("pick " + i + " that is gone", loom.colour(false, i, 0), 9 - i % 10);
        }
    }

    private static void colourBeyondThirty() {
        checks.sentence("Promise 7: IllegalArgumentException, when i is not 0 .. 29");
        Refusals fresh = new Refusals(checks, "new", ShaftLoom::new);
        Refusals busy = new Refusals(checks, "busy", Looms::busy);
        for (boolean warp : BOTH) {
            for (int c : new int[] {0, 9}) {
                fresh.argumentBeyond(name(warp), 0, 29, (loom, i) -> loom.colour(warp, i, c));
                busy.argumentBeyond(name(warp), 0, 29, (loom, i) -> loom.colour(warp, i, c));
            }
            busy.argument("a thread's number", loom -> loom.colour(warp, 100, 1));
        }
    }

    private static void colourBeyondTen() {
        checks.sentence("Promise 7: IllegalArgumentException, when c is not 0 .. 9");
        Refusals fresh = new Refusals(checks, "new", ShaftLoom::new);
        Refusals busy = new Refusals(checks, "busy", Looms::busy);
        for (boolean warp : BOTH) {
            for (int i : new int[] {0, 29}) {
                fresh.argumentBeyond(name(warp), 0, 9, (loom, c) -> loom.colour(warp, i, c));
                busy.argumentBeyond(name(warp), 0, 9, (loom, c) -> loom.colour(warp, i, c));
            }
            busy.argumentBeyond("both wrong", 0, 29, (loom, both) -> loom.colour(warp, both, both));
        }
    }
}
