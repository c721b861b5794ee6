import java.util.TreeSet;

/** Sentence by sentence, the boundary cases of promises 13 and 14 and of the terms that they rest on. */
public final class LayersBoundsTest {
    private static final Checks checks = new Checks("LayersBoundsTest");

    public static void main(String[] args) {
        checks.each(
                LayersBoundsTest::oneThreadWithItself,
                LayersBoundsTest::fewestAndMost,
                LayersBoundsTest::directly,
                LayersBoundsTest::amongAllThreads,
                LayersBoundsTest::byOthersInBetween,
                LayersBoundsTest::fromTheBottom,
                LayersBoundsTest::lowestThreadNext,
                LayersBoundsTest::freeOfThoseLeft,
                LayersBoundsTest::allEndsAndWovenPicks,
                LayersBoundsTest::layersOfNothing,
                LayersBoundsTest::layerOfEachThread,
                LayersBoundsTest::layerOfNothing,
                LayersBoundsTest::layerOfNoThread);
        checks.end();
    }

    private static void oneThreadWithItself() {
        checks.sentence("Terms: a thread is with itself");
        dueLayers("end over pick", Looms.flat(1, 1, true), new int[] {1}, new int[] {0});
        dueLayers("end under pick", Looms.flat(1, 1, false), new int[] {0}, new int[] {1});
    }

    private static void fewestAndMost() {
        checks.sentence("Promise 13: How many LAYERS there are of all ends and woven picks");
        checks.due("fewest of fewest threads", Looms.flat(1, 1, true).layers(), 2);
        checks.due("fewest of 4", Looms.plainWeave(2, 2).layers(), 1);
        checks.due("fewest of 60", Looms.plainWeave(30, 30).layers(), 1);
        checks.due("most of 60, ends above", Looms.flat(30, 30, true).layers(), 60);
        checks.due("most of 60, picks above", Looms.flat(30, 30, false).layers(), 60);
        checks.due("30 ends, one pick", Looms.flat(30, 1, true).layers(), 31);
        checks.due("one end, 30 picks", Looms.flat(1, 30, false).layers(), 31);
        checks.due("no ring with one end", Looms.plainWeave(1, 30).layers(), 31);
        checks.due("no ring with one pick", Looms.plainWeave(30, 1).layers(), 31);
        checks.due("29 and 29 in a ring", Looms.plainWeave(29, 29).layers(), 1);
    }

    private static void directly() {
        checks.sentence("Terms: threads are in the same layer, if each of the two lies over the other one directly ..");
        dueLayers("a ring of four", Looms.woven("#.", ".#"), new int[] {0, 0}, new int[] {0, 0});
        dueLayers("the ring the other way round", Looms.woven(".#", "#."), new int[] {0, 0}, new int[] {0, 0});
        dueLayers("one crossing turned, no ring", Looms.woven("##", ".#"), new int[] {3, 1}, new int[] {2, 0});
    }

    private static void amongAllThreads() {
        checks.sentence("Terms: threads .. each of the two lies over the other one directly (the last of 30 and 30 too)");
        int[] places = {0, 14, 28};
        for (int end : places) {
            for (int pick : places) {
                dueOneOver(end, pick);
                dueOneOver(end + 1, pick + 1);
                dueOneRing(end, pick);
            }
        }
    }

    /** One end over one pick, all other ends under: the pick lies on the others, and the end on it. */
    private static void dueOneOver(int end, int pick) {
        ShaftLoom loom = blank();
        loom.paint(end, pick, true);
        int[] ends = counted(0, end, 1);
        int[] picks = counted(31, pick, 1);
        ends[end] = 30;
        picks[pick] = 29;
        dueLayers("end " + end + " over pick " + pick, adoptedAndWoven(loom), ends, picks);
    }

    /** Two ends in a ring with two picks: over all other ends, since the picks are, and under all other picks. */
    private static void dueOneRing(int end, int pick) {
        ShaftLoom loom = blank();
        loom.paint(end, pick, true);
        loom.paint(end + 1, pick + 1, true);
        int[] ends = counted(0, end, 2);
        int[] picks = counted(29, pick, 2);
        for (int i = 0; i < 2; i++) {
            ends[end + i] = 28;
            picks[pick + i] = 28;
        }
        dueLayers("a ring at " + end + " " + pick, adoptedAndWoven(loom), ends, picks);
    }

    private static ShaftLoom blank() {
        ShaftLoom loom = new ShaftLoom();
        loom.picture(30, 30);
        return loom;
    }

    private static ShaftLoom adoptedAndWoven(ShaftLoom loom) {
        loom.factor(true);
        loom.weave(30);
        return loom;
    }

    /** Numbers for 30 threads, counted on from the first one, so many left out at a gap. */
    private static int[] counted(int first, int gap, int leftOut) {
        int[] numbers = new int[30];
        for (int i = 0; i < 30; i++) {
            numbers[i] = first + (i < gap ? i : i - leftOut);
        }
        return numbers;
    }

    private static void byOthersInBetween() {
        checks.sentence("Terms: .. or by others in between (a lies over b, that over c ..)");
        for (int n = 2; n <= 12; n++) {
            String[] stair = stair(n);
            int[] ends = new int[n];
            int[] picks = new int[n];
            for (int i = 0; i < n; i++) {
                ends[i] = 2 * i;
                picks[i] = 2 * i + 1;
            }
            dueLayers("an open stair of " + n, Looms.woven(stair), ends, picks);
            stair[0] = ".".repeat(n - 1) + "#";
            dueLayers("a closed stair of " + n, Looms.woven(stair), new int[n], new int[n]);
        }
    }

    /** End e lies over the picks before e alone, pick p over the ends up to p. */
    private static String[] stair(int n) {
        String[] stair = new String[n];
        for (int end = 0; end < n; end++) {
            stair[end] = "#".repeat(end) + ".".repeat(n - end);
        }
        return stair;
    }

    private static void fromTheBottom() {
        checks.sentence("Terms: LAYERS are numbered from the bottom");
        dueLayers("ends above", Looms.flat(2, 3, true), new int[] {3, 4}, new int[] {0, 1, 2});
        dueLayers("ends below", Looms.flat(2, 3, false), new int[] {0, 1}, new int[] {2, 3, 4});
        // ends 0 and 1 weave with picks 0 and 1 above what ends 2 and 3 weave with picks 2 and 3
        dueLayers("two cloths", Looms.woven("#.##", ".###", "..#.", "...#"),
                new int[] {1, 1, 0, 0}, new int[] {1, 1, 0, 0});
        // and the same below
        dueLayers("two cloths, changed about", Looms.woven("#...", ".#..", "###.", "##.#"),
                new int[] {0, 0, 1, 1}, new int[] {0, 0, 1, 1});
    }

    private static void lowestThreadNext() {
        checks.sentence("Terms: of these the one with the lowest thread comes next");
        int[] ends = new int[30];
        int[] picks = new int[30];
        for (int i = 0; i < 30; i++) {
            ends[i] = i;
            picks[i] = 30 + i;
        }
        dueLayers("30 ends below 30 picks", Looms.flat(30, 30, false), ends, picks);
        dueLayers("30 picks below 30 ends", Looms.flat(30, 30, true), picks, ends);
        dueLayers("picks below and above an end", Looms.woven("#.#."), new int[] {2}, new int[] {0, 3, 1, 4});
        dueLayers("ends below and above a pick", Looms.woven("#", ".", "#", "."), new int[] {3, 0, 4, 1}, new int[] {2});
    }

    private static void freeOfThoseLeft() {
        checks.sentence("Terms: again and again, of the layers that are left, all those no thread of which lies over one"
                + " of another layer that is left are free");
        // when end 1 is gone, pick 0 becomes free behind it, then end 0, and pick 1 last
        dueLayers("each frees the next", Looms.woven("#.", ".."), new int[] {2, 0}, new int[] {1, 3});
        // end 0 is free first, end 2 only when pick 0 is gone, which lies over ends 0 and 1
        dueLayers("freed late though low", Looms.woven(".", ".", "#"), new int[] {0, 1, 3}, new int[] {2});
        // end 0, the lowest thread, lies over the ring of ends 1 and 2 with both picks
        dueLayers("a ring below a low thread", Looms.woven("##", "#.", ".#"), new int[] {1, 0, 0}, new int[] {0, 0});
        dueLayers("a ring above a high thread", Looms.woven("#.", ".#", ".."), new int[] {1, 1, 0}, new int[] {1, 1});
        // pick 2 lies under both ends of the ring, which is known of pick 1 only by way of end 0
        dueLayers("a high pick below a ring", Looms.woven("#.#", ".##"), new int[] {1, 1}, new int[] {1, 1, 0});
        // pick 2 lies under all ends, end 2 over it alone, and both under the ring
        dueLayers("a pick and an end below a ring", Looms.woven("#.#", ".##", "..#"),
                new int[] {2, 2, 1}, new int[] {2, 2, 0});
    }

    private static void allEndsAndWovenPicks() {
        checks.sentence("Promise 13: .. of all ends and woven picks (those not woven do not count)");
        ShaftLoom loom = Looms.plainWeave(2, 29);
        checks.due("29 woven", loom.layers(), 1);
        loom.run(false, 11, 11);
        checks.due("one more not woven", loom.layers(), 1);
        loom.unweave(27);
        checks.due("2 woven", loom.layers(), 1);
        loom.unweave(1);
        checks.due("1 woven", loom.layers(), 3);
        loom.weave(1);
        checks.due("2 woven again", loom.layers(), 1);
        loom.tie(0, 0, false);
        loom.tie(1, 1, false);
        checks.due("as thrown", loom.layers(), 1);
    }

    private static void layersOfNothing() {
        checks.sentence("Promise 13: IllegalStateException, when nothing is woven");
        for (Visible.Maker maker : nothingWoven()) {
            Refusals refusals = new Refusals(checks, "nothing woven", maker);
            refusals.state("layers", loom -> loom.layers());
        }
        checks.due("one end, one pick", Looms.sizedAndWoven(1, 1, 1).layers(), 2);
    }

    private static Visible.Maker[] nothingWoven() {
        return new Visible.Maker[] {ShaftLoom::new, Looms::unwoven, LayersBoundsTest::allTakenOff,
            LayersBoundsTest::adoptedWhenWoven, () -> Looms.sizedAndWoven(3, 0, 5), () -> Looms.sizedAndWoven(3, 3, 0)};
    }

    private static ShaftLoom allTakenOff() {
        ShaftLoom loom = Looms.plainWeave(4, 4);
        loom.unweave(4);
        return loom;
    }

    private static ShaftLoom adoptedWhenWoven() {
        ShaftLoom loom = Looms.plainWeave(4, 4);
        loom.factor(true);
        return loom;
    }

    private static void layerOfEachThread() {
        checks.sentence("Promise 14: The layer of a thread (the first is 0, the last one less than there are)");
        ShaftLoom loom = Looms.flat(30, 30, true);
        TreeSet<Integer> numbers = new TreeSet<>();
        for (int i = 0; i < 30; i++) {
            numbers.add(loom.layer(i));
            numbers.add(loom.layer(100 + i));
        }
        checks.due("all numbers differ", numbers.size(), 60);
        checks.due("the bottom", numbers.first(), 0);
        checks.due("the top", numbers.last(), loom.layers() - 1);
        checks.due("last end", loom.layer(29), 59);
        checks.due("last pick", loom.layer(129), 29);
        ShaftLoom ring = Looms.plainWeave(30, 30);
        checks.due("first of a ring", ring.layer(0), 0);
        checks.due("last of a ring", ring.layer(129), 0);
        ring.unweave(29);
        checks.due("the pick between", ring.layer(100), 15);
        checks.due("the first end on top", ring.layer(0), 16);
        checks.due("the last end below", ring.layer(29), 14);
    }

    private static void layerOfNothing() {
        checks.sentence("Promise 14: IllegalStateException likewise");
        for (Visible.Maker maker : nothingWoven()) {
            Refusals refusals = new Refusals(checks, "nothing woven", maker);
            for (int thread : new int[] {0, 2, 29, 30, 99, 100, 129, -1, Integer.MIN_VALUE, Integer.MAX_VALUE}) {
                refusals.state("layer of " + thread, loom -> loom.layer(thread));
            }
        }
    }

    private static void layerOfNoThread() {
        checks.sentence("Promise 14: IndexOutOfBoundsException, when there is no such thread");
        for (int ends : new int[] {1, 4, 29, 30}) {
            for (int woven : new int[] {1, 4, 29, 30}) {
                Refusals refusals = new Refusals(checks, ends + " by " + woven,
                        () -> Looms.sizedAndWoven(ends, 30, woven));
                refusals.indexBeyond("end", 0, ends - 1, (loom, thread) -> loom.layer(thread));
                refusals.index("before the picks", loom -> loom.layer(99));
                refusals.index("behind the woven picks", loom -> loom.layer(100 + woven));
                refusals.index("behind all picks", loom -> loom.layer(130));
                refusals.index("a negative pick", loom -> loom.layer(-100));
            }
        }
        Refusals off = new Refusals(checks, "one taken off", LayersBoundsTest::lastTakenOff);
        off.index("a pick that was woven", loom -> loom.layer(103));
        ShaftLoom left = lastTakenOff();
        checks.due("the last that is left", left.layer(102), 0);
        checks.due("the last end", left.layer(3), 0);
    }

    private static ShaftLoom lastTakenOff() {
        ShaftLoom loom = Looms.plainWeave(4, 4);
        loom.unweave(1);
        return loom;
    }

    private static void dueLayers(String what, ShaftLoom loom, int[] ends, int[] picks) {
        TreeSet<Integer> numbers = new TreeSet<>();
        for (int end = 0; end < ends.length; end++) {
            checks.due(what + ": layer of end " + end, loom.layer(end), ends[end]);
            numbers.add(ends[end]);
        }
        for (int pick = 0; pick < picks.length; pick++) {
            checks.due(what + ": layer of pick " + pick, loom.layer(100 + pick), picks[pick]);
            numbers.add(picks[pick]);
        }
        checks.due(what + ": layers", loom.layers(), numbers.size());
    }
}
