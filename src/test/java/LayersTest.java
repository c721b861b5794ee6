/** Promises 13 and 14: layers, layer. */
public final class LayersTest {
    private static final Checks checks = new Checks("LayersTest");

    public static void main(String[] args) {
        wrongCalls();
        oneLayer();
        allOnTop();
        allBelow();
        twoCloths();
        freeOnesByLowestThread();
        anewEachTime();
        chainsOfMany();
        widest();
        checks.end();
    }

    private static void wrongCalls() {
        ShaftLoom loom = new ShaftLoom();
        checks.state("layers of nothing", loom::layers);
        checks.state("layer of nothing", () -> loom.layer(0));
        loom.run(true, 0, 2);
        loom.run(false, 0, 2);
        checks.state("layers, not woven", loom::layers);
        checks.state("layer of an end, not woven", () -> loom.layer(0));
        checks.state("layer of no thread, not woven", () -> loom.layer(-1));
        loom.weave(2);
        for (int wrong : new int[] {-1, 3, 99, 102, Integer.MIN_VALUE, Integer.MAX_VALUE}) {
            checks.index("layer of " + wrong, () -> loom.layer(wrong));
        }
        loom.unweave(2);
        checks.state("layers, all off", loom::layers);
        checks.state("layer, all off", () -> loom.layer(0));
    }

    private static void oneLayer() {
        // plain weave: a ring through all
        dueLayers(Looms.woven("#.", ".#"), new int[] {0, 0}, new int[] {0, 0});
    }

    private static void allOnTop() {
        // no two of them lie over each other: each is a layer, the ends above
        dueLayers(Looms.woven("##", "##", "##"), new int[] {2, 3, 4}, new int[] {0, 1});
    }

    private static void allBelow() {
        dueLayers(Looms.woven("..", "..", ".."), new int[] {0, 1, 2}, new int[] {3, 4});
    }

    private static void twoCloths() {
        // ends 0 and 2 with picks 0 and 2 weave above what ends 1 and 3 weave with picks 1 and 3
        dueLayers(Looms.woven("##.#", "...#", ".###", ".#.."), new int[] {1, 0, 1, 0}, new int[] {1, 0, 1, 0});
    }

    private static void freeOnesByLowestThread() {
        // the ends 1 and 2 lie under both picks; then pick 0, over which end 0 lies, under pick 1
        dueLayers(Looms.woven("#.", "..", ".."), new int[] {3, 0, 1}, new int[] {2, 4});
        // end 1 lies under all; then pick 0; the ends 0 and 2 are free together, pick 1 is on top
        dueLayers(Looms.woven("#.", "..", "#."), new int[] {2, 0, 3}, new int[] {1, 4});
        // pick 1 lies under all, pick 0 under end 1 alone
        dueLayers(Looms.woven(".#", "##"), new int[] {1, 3}, new int[] {2, 0});
        // the picks 0 and 2 are free together, above them end 0, and the picks 1 and 3 on top
        dueLayers(Looms.woven("#.#."), new int[] {2}, new int[] {0, 3, 1, 4});
        // a ring of two ends and two picks, with a single thread of each kind below and above it
        dueLayers(Looms.woven("#.#.", ".##.", "....", "####"), new int[] {2, 2, 0, 4}, new int[] {2, 2, 1, 3});
    }

    private static void anewEachTime() {
        ShaftLoom loom = Looms.woven("#.", ".#");
        checks.due("both picks", loom.layers(), 1);
        loom.unweave(1);
        checks.due("one pick", loom.layers(), 3);
        checks.due("end 1 at the bottom", loom.layer(1), 0);
        checks.due("the pick between", loom.layer(100), 1);
        checks.due("end 0 on top", loom.layer(0), 2);
        checks.index("the pick taken off", () -> loom.layer(101));
        loom.weave(1);
        checks.due("layer asked first", loom.layer(0), 0);
    }

    private static void chainsOfMany() {
        // each end e is over the picks before e: a stair of single layers, pick 9 .. on top
        int n = 10;
        String[] stair = new String[n];
        int[] endsDue = new int[n];
        int[] picksDue = new int[n];
        for (int end = 0; end < n; end++) {
            stair[end] = "#".repeat(end) + ".".repeat(n - end);
            endsDue[end] = 2 * end;
            picksDue[end] = 2 * end + 1;
        }
        dueLayers(Looms.woven(stair), endsDue, picksDue);
        // the bottom end put over the top pick closes the whole stair to one ring
        stair[0] = ".".repeat(n - 1) + "#";
        dueLayers(Looms.woven(stair), new int[n], new int[n]);
    }

    private static void widest() {
        dueLayers(Looms.plainWeave(30, 30), new int[30], new int[30]);
        int[] endsDue = new int[30];
        int[] picksDue = new int[30];
        for (int i = 0; i < 30; i++) {
            endsDue[i] = 30 + i;
            picksDue[i] = i;
        }
        dueLayers(Looms.flat(30, 30, true), endsDue, picksDue);
    }

    private static void dueLayers(ShaftLoom loom, int[] ends, int[] picks) {
        int highest = 0;
        for (int end = 0; end < ends.length; end++) {
            checks.due("layer of end " + end, loom.layer(end), ends[end]);
            highest = Math.max(highest, ends[end]);
        }
        for (int pick = 0; pick < picks.length; pick++) {
            checks.due("layer of pick " + pick, loom.layer(100 + pick), picks[pick]);
            highest = Math.max(highest, picks[pick]);
        }
        checks.due("layers", loom.layers(), highest + 1);
    }
}
