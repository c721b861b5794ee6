/** Sentence by sentence, the boundary cases of promises 8 to 12 and 15 and of the terms that they rest on. */
public final class ClothBoundsTest {
    private static final Checks checks = new Checks("ClothBoundsTest");
    private static final boolean[] BOTH = {true, false};

    public static void main(String[] args) {
        checks.each(
                ClothBoundsTest::weaveAsFarAsItGoes,
                ClothBoundsTest::wovenAtMostTheTreadling,
                ClothBoundsTest::weaveWithoutTreadling,
                ClothBoundsTest::weaveBelowZero,
                ClothBoundsTest::weaveWithoutEnds,
                ClothBoundsTest::tiedThen,
                ClothBoundsTest::changedOnlyBehind,
                ClothBoundsTest::unweaveSome,
                ClothBoundsTest::unweaveTooMany,
                ClothBoundsTest::overEachCrossing,
                ClothBoundsTest::overNoEnd,
                ClothBoundsTest::overNoWovenPick,
                ClothBoundsTest::seenOnBothSides,
                ClothBoundsTest::seenNoCrossing,
                ClothBoundsTest::threadNumbers,
                ClothBoundsTest::longestWhole,
                ClothBoundsTest::longestNone,
                ClothBoundsTest::longestDoesNotGoRound,
                ClothBoundsTest::longestAtEachPlace,
                ClothBoundsTest::longestOfNoThread,
                ClothBoundsTest::periodNoLesser,
                ClothBoundsTest::periodOfOne,
                ClothBoundsTest::periodOfAll,
                ClothBoundsTest::periodDoesNotGoRound,
                ClothBoundsTest::periodOfWovenAlone,
                ClothBoundsTest::periodOfNothing);
        checks.end();
    }

    private static void weaveAsFarAsItGoes() {
        checks.sentence("Promise 8: Throws n picks, as far as the treadling goes: how many were thrown");
        for (int picks : new int[] {1, 2, 29, 30}) {
            for (int woven : new int[] {0, 1, picks - 1, picks}) {
                for (int n : new int[] {0, 1, 2, 28, 29, 30, 31, Integer.MAX_VALUE - 1, Integer.MAX_VALUE}) {
                    dueWeave(picks, woven, n);
                }
            }
        }
    }

    private static void dueWeave(int picks, int woven, int n) {
        ShaftLoom loom = Looms.sized(2, picks);
        String what = "of " + picks + ", " + woven + " woven, " + n + " more";
        checks.due(what + ", first", loom.weave(woven), woven);
        int left = picks - woven;
        int thrown = n < left ? n : left;
        checks.due(what, loom.weave(n), thrown);
        checks.due(what + ", woven then", loom.draft(5, 0, 0), woven + thrown);
        checks.due(what + ", the treadling stays", loom.draft(4, 0, 0), picks);
    }

    private static void wovenAtMostTheTreadling() {
        checks.sentence("Terms: WOVEN are as many picks as were thrown and not taken off, at most those of the treadling");
        ShaftLoom loom = Looms.sized(1, 30);
        checks.due("all", loom.weave(30), 30);
        checks.due("no more", loom.weave(1), 0);
        loom.unweave(1);
        checks.due("not taken off", loom.draft(5, 0, 0), 29);
        checks.due("thrown again", loom.weave(2), 1);
        loom.unweave(30);
        checks.due("all taken off", loom.draft(5, 0, 0), 0);
        loom.clear(false);
        loom.run(false, 0, 0);
        checks.due("one alone", loom.weave(30), 1);
        loom.run(false, 0, 1);
        checks.due("those behind it", loom.weave(30), 2);
    }

    private static void weaveWithoutTreadling() {
        checks.sentence("Promise 8: as far as the treadling goes (it is empty)");
        for (int n : new int[] {0, 1, 30, Integer.MAX_VALUE}) {
            ShaftLoom loom = Looms.sized(3, 0);
            checks.due("weave " + n, loom.weave(n), 0);
            checks.due("woven", loom.draft(5, 0, 0), 0);
            checks.due("the threading can be changed", loom.run(true, 0, 0), 4);
        }
    }

    private static void weaveBelowZero() {
        checks.sentence("Promise 8: IllegalArgumentException, when n is below 0");
        Visible.Maker[] makers = {ShaftLoom::new, Looms::unwoven, Looms::busy, () -> Looms.sizedAndWoven(2, 3, 3)};
        for (Visible.Maker maker : makers) {
            Refusals refusals = new Refusals(checks, "weave", maker);
            for (int n : new int[] {-1, -2, Integer.MIN_VALUE, Integer.MIN_VALUE + 1}) {
                refusals.argument("n " + n, loom -> loom.weave(n));
            }
        }
        checks.due("0 is not below 0", Looms.busy().weave(0), 0);
    }

    private static void weaveWithoutEnds() {
        checks.sentence("Promise 8: IllegalStateException, when there are no ends");
        Visible.Maker[] makers = {ShaftLoom::new, () -> Looms.sized(0, 5), ClothBoundsTest::endsCleared};
        for (Visible.Maker maker : makers) {
            Refusals refusals = new Refusals(checks, "no ends", maker);
            for (int n : new int[] {0, 1, 5, 6, Integer.MAX_VALUE}) {
                refusals.state("n " + n, loom -> loom.weave(n));
            }
        }
        checks.due("one end", Looms.sized(1, 5).weave(5), 5);
    }

    private static ShaftLoom endsCleared() {
        ShaftLoom loom = Looms.sizedAndWoven(4, 5, 2);
        loom.unweave(2);
        loom.clear(true);
        return loom;
    }

    private static void tiedThen() {
        checks.sentence("Terms: When pick p is thrown, end e is OVER it, if the shaft of e is tied to the treadle"
                + " of p then; else the pick is over the end");
        ShaftLoom loom = new ShaftLoom();
        loom.run(true, 11, 11);
        loom.run(false, 11, 11);
        loom.again(false, 1, 3, false);
        loom.weave(1);
        loom.tie(11, 11, true);
        loom.weave(1);
        loom.tie(11, 11, false);
        loom.weave(1);
        checks.due("before it was tied", loom.over(0, 0), 0);
        checks.due("while it was tied", loom.over(0, 1), 1);
        checks.due("after it was tied", loom.over(0, 2), 0);
        loom.tie(11, 11, true);
        loom.unweave(1);
        loom.weave(2);
        checks.due("thrown again", loom.over(0, 2), 1);
        checks.due("thrown last", loom.over(0, 3), 1);
        checks.due("never taken off", loom.over(0, 0), 0);
    }

    private static void changedOnlyBehind() {
        checks.sentence("Terms: The threading can be changed only when nothing is woven, the treadling only behind"
                + " what is woven");
        Refusals woven = new Refusals(checks, "one woven", () -> Looms.sizedAndWoven(3, 4, 1));
        woven.state("run", loom -> loom.run(true, 0, 0));
        woven.state("again", loom -> loom.again(true, 1, 1, false));
        woven.state("clear", loom -> loom.clear(true));
        ShaftLoom loom = Looms.sizedAndWoven(3, 4, 2);
        loom.clear(false);
        Looms.dueRow(checks, loom, false, 0, 1);
        loom.run(false, 9, 9);
        loom.again(false, 3, 1, false);
        loom.again(false, 2, 0, true);
        Looms.dueRow(checks, loom, false, 0, 1, 9, 0, 1, 9, 1);
        Looms.dueRow(checks, loom, true, 0, 1, 2);
        checks.due("woven as before", loom.draft(5, 0, 0), 2);
    }

    private static void unweaveSome() {
        checks.sentence("Promise 9: Takes n picks off");
        for (int woven = 0; woven <= 30; woven++) {
            for (int n = 0; n <= woven; n++) {
                ShaftLoom loom = Looms.sizedAndWoven(1, 30, woven);
                loom.unweave(n);
                checks.due(n + " off " + woven, loom.draft(5, 0, 0), woven - n);
                checks.due("the treadling stays", loom.draft(4, 0, 0), 30);
            }
        }
        ShaftLoom last = Looms.woven("#.#");
        last.unweave(1);
        checks.due("the first stays", last.over(0, 0), 1);
        checks.due("the second stays", last.over(0, 1), 0);
        checks.index("the last is off", () -> last.over(0, 2));
    }

    private static void unweaveTooMany() {
        checks.sentence("Promise 9: IllegalArgumentException, when n is not 0 .. how many are woven");
        for (int woven : new int[] {0, 1, 3, 29, 30}) {
            Refusals refusals = new Refusals(checks, woven + " woven", () -> Looms.sizedAndWoven(2, 30, woven));
            refusals.argumentBeyond("unweave", 0, woven, (loom, n) -> loom.unweave(n));
        }
        Refusals fresh = new Refusals(checks, "new", ShaftLoom::new);
        fresh.argumentBeyond("unweave", 0, 0, (loom, n) -> loom.unweave(n));
        checks.due("none off a new loom", Checks.thrownBy(() -> new ShaftLoom().unweave(0)), "nothing");
    }

    private static void overEachCrossing() {
        checks.sentence("Promise 10: 1 when the end is over the pick, 0 when it is under");
        for (int end = 0; end < 12; end++) {
            for (int pick = 0; pick < 12; pick++) {
                ShaftLoom loom = Looms.sized(12, 12);
                loom.tie(end, pick, true);
                loom.weave(12);
                checks.due("tied", loom.over(end, pick), 1);
                checks.due("no other one", oversWithin(loom, 12, 12), 1);
            }
        }
        // 30 by 30 are 900 crossings, more than the calls of one loom
        for (int end = 0; end < 30; end++) {
            ShaftLoom over = Looms.flat(30, 30, true);
            ShaftLoom under = Looms.flat(30, 30, false);
            for (int pick = 0; pick < 30; pick++) {
                checks.due("all over " + end + " " + pick, over.over(end, pick), 1);
                checks.due("all under " + end + " " + pick, under.over(end, pick), 0);
            }
        }
    }

    private static int oversWithin(ShaftLoom loom, int ends, int picks) {
        int overs = 0;
        for (int end = 0; end < ends; end++) {
            for (int pick = 0; pick < picks; pick++) {
                overs += loom.over(end, pick);
            }
        }
        return overs;
    }

    private static void overNoEnd() {
        checks.sentence("Promise 10: IndexOutOfBoundsException, when there is no such end");
        for (int ends : new int[] {1, 4, 29, 30}) {
            Refusals refusals = new Refusals(checks, ends + " ends", () -> Looms.flat(ends, 30, true));
            for (int pick : new int[] {0, 29}) {
                refusals.indexBeyond("end", 0, ends - 1, (loom, end) -> loom.over(end, pick));
            }
            refusals.index("an end and a pick changed about", loom -> loom.over(100, 0));
        }
        checks.due("the last of 30", Looms.flat(30, 30, true).over(29, 29), 1);
        Refusals cleared = new Refusals(checks, "ends cleared", ClothBoundsTest::endsCleared);
        cleared.index("an end that is gone", loom -> loom.over(0, 0));
    }

    private static void overNoWovenPick() {
        checks.sentence("Promise 10: IndexOutOfBoundsException, when there is no such woven pick");
        for (int woven : new int[] {0, 1, 4, 29, 30}) {
            Refusals refusals = new Refusals(checks, woven + " woven", () -> Looms.sizedAndWoven(30, 30, woven));
            for (int end : new int[] {0, 29}) {
                refusals.indexBeyond("pick", 0, woven - 1, (loom, pick) -> loom.over(end, pick));
            }
            refusals.index("a thread's number", loom -> loom.over(0, 100));
        }
        Refusals fresh = new Refusals(checks, "new", ShaftLoom::new);
        fresh.index("no crossing", loom -> loom.over(0, 0));
        fresh.indexBeyond("both", 0, 0, (loom, both) -> loom.over(both, both));
        Refusals off = new Refusals(checks, "taken off", ClothBoundsTest::lastTakenOff);
        off.index("a pick that was woven", loom -> loom.over(0, 2));
        checks.due("the one before it", lastTakenOff().over(0, 1), 1);
        Refusals adopted = new Refusals(checks, "adopted", ClothBoundsTest::adoptedWhenWoven);
        adopted.index("nothing is woven then", loom -> loom.over(0, 0));
    }

    private static ShaftLoom lastTakenOff() {
        ShaftLoom loom = Looms.flat(2, 3, true);
        loom.unweave(1);
        return loom;
    }

    private static ShaftLoom adoptedWhenWoven() {
        ShaftLoom loom = Looms.flat(2, 3, true);
        loom.factor(true);
        return loom;
    }

    private static void seenOnBothSides() {
        checks.sentence("Terms: On the FRONT one sees at a crossing the colour of what is over,"
                + " on the BACK of what is under");
        for (int endColour = 0; endColour <= 9; endColour++) {
            for (int pickColour = 0; pickColour <= 9; pickColour++) {
                for (boolean over : BOTH) {
                    ShaftLoom loom = Looms.flat(30, 30, over);
                    loom.colour(true, 29, endColour);
                    loom.colour(false, 29, pickColour);
                    int front = over ? endColour : pickColour;
                    int back = over ? pickColour : endColour;
                    checks.due("front", loom.seen(29, 29, false), front);
                    checks.due("back", loom.seen(29, 29, true), back);
                    checks.due("another crossing, front", loom.seen(28, 28, false), 0);
                    checks.due("another crossing, back", loom.seen(28, 28, true), 0);
                }
            }
        }
    }

    private static void seenNoCrossing() {
        checks.sentence("Promise 11: IndexOutOfBoundsException likewise");
        for (boolean back : BOTH) {
            for (int ends : new int[] {1, 4, 29, 30}) {
                Refusals refusals = new Refusals(checks, ends + " ends", () -> Looms.flat(ends, 30, true));
                refusals.indexBeyond("end", 0, ends - 1, (loom, end) -> loom.seen(end, 0, back));
                refusals.indexBeyond("end", 0, ends - 1, (loom, end) -> loom.seen(end, 29, back));
            }
            for (int woven : new int[] {0, 1, 4, 29, 30}) {
                Refusals refusals = new Refusals(checks, woven + " woven", () -> Looms.sizedAndWoven(30, 30, woven));
                refusals.indexBeyond("pick", 0, woven - 1, (loom, pick) -> loom.seen(0, pick, back));
                refusals.indexBeyond("pick", 0, woven - 1, (loom, pick) -> loom.seen(29, pick, back));
            }
            Refusals fresh = new Refusals(checks, "new", ShaftLoom::new);
            fresh.index("no crossing", loom -> loom.seen(0, 0, back));
            Refusals cleared = new Refusals(checks, "ends cleared", ClothBoundsTest::endsCleared);
            cleared.index("an end that is gone", loom -> loom.seen(0, 0, back));
            Refusals off = new Refusals(checks, "taken off", ClothBoundsTest::lastTakenOff);
            off.index("a pick that was woven", loom -> loom.seen(0, 2, back));
            checks.due("the last of all", Looms.flat(30, 30, true).seen(29, 29, back), 0);
        }
    }

    private static void threadNumbers() {
        checks.sentence("Terms: THREADS are numbered: end e is e, pick p is 100 + p (woven ones)");
        ShaftLoom loom = Looms.sizedAndWoven(30, 30, 30);
        for (int i = 0; i < 30; i++) {
            // nothing is tied: an end is never seen on the front, a pick always
            checks.due("end " + i, loom.longest(i, false), 0);
            checks.due("pick " + i, loom.longest(100 + i, false), 30);
        }
        for (int none = 30; none <= 99; none++) {
            int thread = none;
            checks.index("between the ends and the picks", () -> loom.longest(thread, false));
        }
        for (int none = 130; none <= 160; none++) {
            int thread = none;
            checks.index("behind the picks", () -> loom.longest(thread, false));
        }
    }

    private static void longestWhole() {
        checks.sentence("Promise 12: The longest float of a thread (all of it)");
        for (int size : new int[] {1, 2, 29, 30}) {
            ShaftLoom over = Looms.flat(size, 30, true);
            checks.due("an end over 30 picks", over.longest(size - 1, false), 30);
            checks.due("a pick under all ends", over.longest(129, true), size);
            ShaftLoom under = Looms.flat(30, size, false);
            checks.due("an end under all picks", under.longest(29, true), size);
            checks.due("a pick over 30 ends", under.longest(100 + size - 1, false), 30);
        }
    }

    private static void longestNone() {
        checks.sentence("Promise 12: 0 when it has none");
        for (int size : new int[] {1, 30}) {
            ShaftLoom over = Looms.flat(size, size, true);
            checks.due("an end that is never under", over.longest(0, true), 0);
            checks.due("a pick that is never over", over.longest(100, false), 0);
            ShaftLoom under = Looms.flat(size, size, false);
            checks.due("an end that is never over", under.longest(size - 1, false), 0);
            checks.due("a pick that is never under", under.longest(100 + size - 1, true), 0);
        }
        ShaftLoom notWoven = Looms.sized(30, 30);
        for (boolean back : BOTH) {
            checks.due("the first end, nothing woven", notWoven.longest(0, back), 0);
            checks.due("the last end, nothing woven", notWoven.longest(29, back), 0);
        }
        ShaftLoom off = Looms.flat(3, 4, true);
        off.unweave(4);
        checks.due("all taken off", off.longest(2, false), 0);
    }

    private static void longestDoesNotGoRound() {
        checks.sentence("Terms: A FLOAT of a thread on a side are neighbouring crossings of it, along it"
                + " (none round the edge)");
        ShaftLoom ends = Looms.woven("##..#", "..##.");
        checks.due("end, front", ends.longest(0, false), 2);
        checks.due("end, back", ends.longest(1, true), 2);
        checks.due("end, front, in the middle", ends.longest(1, false), 2);
        ShaftLoom picks = Looms.woven(".#", ".#", "#.", "#.", ".#");
        checks.due("pick, front", picks.longest(100, false), 2);
        checks.due("pick, back", picks.longest(101, true), 2);
        ShaftLoom row = Looms.woven("#", ".", "#", "#");
        checks.due("pick, back, last", row.longest(100, true), 2);
        checks.due("pick, front, one", row.longest(100, false), 1);
    }

    private static void longestAtEachPlace() {
        checks.sentence("Terms: A FLOAT .. neighbouring crossings .. at which it is seen on that side");
        for (int from = 0; from < 10; from++) {
            for (int to = from + 1; to <= 10; to++) {
                String line = ".".repeat(from) + "#".repeat(to - from) + ".".repeat(10 - to);
                int most = Math.max(from, 10 - to);
                ShaftLoom end = Looms.woven(line);
                checks.due(line + " along an end, front", end.longest(0, false), to - from);
                checks.due(line + " along an end, back", end.longest(0, true), most);
                ShaftLoom pick = Looms.woven(line.split(""));
                checks.due(line + " along a pick, front", pick.longest(100, false), most);
                checks.due(line + " along a pick, back", pick.longest(100, true), to - from);
            }
        }
    }

    private static void longestOfNoThread() {
        checks.sentence("Promise 12: IndexOutOfBoundsException, when there is no such thread");
        for (boolean back : BOTH) {
            for (int ends : new int[] {1, 4, 29, 30}) {
                for (int woven : new int[] {0, 1, 4, 29, 30}) {
                    Refusals refusals = new Refusals(checks, ends + " by " + woven,
                            () -> Looms.sizedAndWoven(ends, 30, woven));
                    refusals.indexBeyond("end", 0, ends - 1, (loom, thread) -> loom.longest(thread, back));
                    refusals.index("before the picks", loom -> loom.longest(99, back));
                    refusals.index("behind the woven picks", loom -> loom.longest(100 + woven, back));
                    refusals.index("behind all picks", loom -> loom.longest(130, back));
                    refusals.index("a negative pick", loom -> loom.longest(-100, back));
                }
            }
            Refusals fresh = new Refusals(checks, "new", ShaftLoom::new);
            fresh.index("no end", loom -> loom.longest(0, back));
            fresh.index("no pick", loom -> loom.longest(100, back));
            Refusals cleared = new Refusals(checks, "ends cleared", ClothBoundsTest::endsCleared);
            cleared.index("an end that is gone", loom -> loom.longest(0, back));
            Refusals off = new Refusals(checks, "taken off", ClothBoundsTest::lastTakenOff);
            off.index("a pick that was woven", loom -> loom.longest(102, back));
        }
    }

    private static void periodNoLesser() {
        checks.sentence("Terms: THE PERIOD .. how many there are, if there is no lesser one");
        for (int size = 2; size <= 30; size++) {
            String lastAlone = ".".repeat(size - 1) + "#";
            checks.due("along " + lastAlone, Looms.woven(lastAlone).period(true), size);
            checks.due("across " + lastAlone, Looms.woven(lastAlone.split("")).period(false), size);
        }
    }

    private static void periodOfOne() {
        checks.sentence("Terms: THE PERIOD of the cloth across (along): the least k above 0");
        for (int size = 1; size <= 30; size++) {
            for (boolean over : BOTH) {
                checks.due("along, all alike", Looms.flat(3, size, over).period(true), 1);
                checks.due("across, all alike", Looms.flat(size, 3, over).period(false), 1);
            }
            int plain = Math.min(2, size);
            checks.due("along, plain weave", Looms.plainWeave(2, size).period(true), plain);
            checks.due("across, plain weave", Looms.plainWeave(size, 2).period(false), plain);
        }
        ShaftLoom single = Looms.flat(1, 1, true);
        checks.due("along one crossing", single.period(true), 1);
        checks.due("across one crossing", single.period(false), 1);
    }

    private static void periodOfAll() {
        checks.sentence("Terms: THE PERIOD .. each end (woven pick) with one k further has the same crossings as that one");
        for (int size = 2; size <= 30; size++) {
            for (int k = 1; k < size; k++) {
                String line = ("#" + ".".repeat(k - 1)).repeat(30).substring(0, size);
                checks.due("along " + line, Looms.woven(line).period(true), k);
                checks.due("across " + line, Looms.woven(line.split("")).period(false), k);
            }
        }
        // across the ends repeat after 2 in the first pick, after 3 in the second one
        ShaftLoom both = Looms.woven("##", "..", "#.", ".#", "#.", "..", "##");
        checks.due("every crossing counts", both.period(false), 6);
    }

    private static void periodDoesNotGoRound() {
        checks.sentence("Terms: THE PERIOD .. one k further (it need not come out even, and does not go round)");
        checks.due("along, a rest", Looms.woven("#..#.").period(true), 3);
        checks.due("along, a rest of one", Looms.woven("#...#").period(true), 4);
        checks.due("across, a rest", Looms.woven("#", ".", ".", "#", ".").period(false), 3);
        checks.due("along, only round the edge", Looms.woven("##.#").period(true), 3);
        checks.due("along, a wrong rest", Looms.woven("#..##").period(true), 4);
    }

    private static void periodOfWovenAlone() {
        checks.sentence("Promise 15: THE PERIOD of the woven cloth");
        ShaftLoom loom = Looms.woven("##.#", "##..");
        checks.due("along, all", loom.period(true), 4);
        checks.due("across, all", loom.period(false), 2);
        loom.unweave(1);
        checks.due("along, one off", loom.period(true), 3);
        checks.due("across, one off", loom.period(false), 1);
        loom.unweave(1);
        checks.due("along, two off", loom.period(true), 1);
        loom.tie(0, 0, false);
        checks.due("along, as thrown", loom.period(true), 1);
        checks.due("across, as thrown", loom.period(false), 1);
    }

    private static void periodOfNothing() {
        checks.sentence("Promise 15: IllegalStateException likewise");
        Visible.Maker[] makers = {ShaftLoom::new, Looms::unwoven, ClothBoundsTest::endsCleared,
            ClothBoundsTest::adoptedWhenWoven, ClothBoundsTest::allTakenOff, () -> Looms.sizedAndWoven(3, 0, 5)};
        for (Visible.Maker maker : makers) {
            Refusals refusals = new Refusals(checks, "nothing woven", maker);
            refusals.state("along", loom -> loom.period(true));
            refusals.state("across", loom -> loom.period(false));
        }
        checks.due("one woven", Looms.sizedAndWoven(3, 3, 1).period(true), 1);
    }

    private static ShaftLoom allTakenOff() {
        ShaftLoom loom = Looms.flat(3, 4, true);
        loom.unweave(4);
        return loom;
    }
}
