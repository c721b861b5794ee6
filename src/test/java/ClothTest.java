/** Promises 8 to 12 and 15: weave, unweave, over, seen, longest, period. */
public final class ClothTest {
    private static final Checks checks = new Checks("ClothTest");

    public static void main(String[] args) {
        weaves();
        wrongWeaves();
        unweaves();
        overs();
        oversStayAsThrown();
        sights();
        floats();
        floatsOfThreads();
        periods();
        periodsOfOddRests();
        checks.end();
    }

    private static void weaves() {
        ShaftLoom loom = twill(4, 6);
        checks.due("none", loom.weave(0), 0);
        checks.due("two", loom.weave(2), 2);
        checks.due("woven", loom.draft(5, 0, 0), 2);
        checks.due("as far as it goes", loom.weave(5), 4);
        checks.due("no more", loom.weave(Integer.MAX_VALUE), 0);
        checks.due("all woven", loom.draft(5, 0, 0), 6);
        loom.run(false, 0, 1);
        checks.due("further on the new treadling", loom.weave(Integer.MAX_VALUE), 2);
        ShaftLoom noTreadling = new ShaftLoom();
        noTreadling.run(true, 0, 0);
        checks.due("without a treadling", noTreadling.weave(3), 0);
    }

    private static void wrongWeaves() {
        ShaftLoom loom = new ShaftLoom();
        checks.argument("below 0 without ends", () -> loom.weave(-1));
        checks.state("none without ends", () -> loom.weave(0));
        loom.run(false, 0, 3);
        checks.state("without ends", () -> loom.weave(1));
        loom.run(true, 0, 0);
        checks.argument("below 0", () -> loom.weave(-1));
        checks.argument("far below 0", () -> loom.weave(Integer.MIN_VALUE));
        checks.due("nothing was woven", loom.draft(5, 0, 0), 0);
        loom.clear(true);
        checks.state("when the ends are gone", () -> loom.weave(1));
    }

    private static void unweaves() {
        ShaftLoom loom = twill(4, 6);
        checks.argument("when nothing is woven", () -> loom.unweave(1));
        loom.unweave(0);
        loom.weave(5);
        for (int wrong : new int[] {-1, 6, Integer.MIN_VALUE, Integer.MAX_VALUE}) {
            checks.argument("unweave of " + wrong, () -> loom.unweave(wrong));
        }
        loom.unweave(0);
        checks.due("none off", loom.draft(5, 0, 0), 5);
        loom.unweave(2);
        checks.due("two off", loom.draft(5, 0, 0), 3);
        checks.due("the treadling stays", loom.draft(4, 0, 0), 6);
        loom.unweave(3);
        checks.due("all off", loom.draft(5, 0, 0), 0);
    }

    private static void overs() {
        ShaftLoom loom = twill(4, 6);
        checks.index("nothing woven", () -> loom.over(0, 0));
        loom.weave(5);
        for (int end = 0; end < 4; end++) {
            for (int pick = 0; pick < 5; pick++) {
                int treadle = pick % 4;
                boolean tied = treadle == end || treadle == (end + 1) % 4;
                checks.due("over " + end + " " + pick, loom.over(end, pick), tied ? 1 : 0);
            }
        }
        for (int wrong : new int[] {-1, 4, Integer.MIN_VALUE, Integer.MAX_VALUE}) {
            checks.index("end " + wrong, () -> loom.over(wrong, 0));
            checks.index("end " + wrong + " seen", () -> loom.seen(wrong, 0, true));
        }
        for (int wrong : new int[] {-1, 5, 100, Integer.MIN_VALUE, Integer.MAX_VALUE}) {
            checks.index("pick " + wrong, () -> loom.over(0, wrong));
            checks.index("pick " + wrong + " seen", () -> loom.seen(0, wrong, false));
        }
        loom.unweave(5);
        checks.index("all off", () -> loom.over(0, 0));
        loom.clear(true);
        loom.run(true, 2, 2);
        loom.weave(1);
        checks.due("anew with other ends", loom.over(0, 0), 0);
        checks.index("an end of the cloth before", () -> loom.over(1, 0));
    }

    private static void oversStayAsThrown() {
        ShaftLoom loom = twill(2, 4);
        loom.weave(1);
        checks.due("tied when thrown", loom.over(0, 0), 1);
        loom.tie(0, 0, false);
        checks.due("untied later", loom.over(0, 0), 1);
        loom.unweave(1);
        loom.weave(1);
        checks.due("thrown again", loom.over(0, 0), 0);
        loom.tie(0, 0, true);
        checks.due("tied later", loom.over(0, 0), 0);
        loom.clear(false);
        loom.run(false, 0, 0);
        loom.weave(1);
        checks.due("the next with the new tie", loom.over(0, 1), 1);
        checks.due("the one before it as it was", loom.over(0, 0), 0);
    }

    private static void sights() {
        ShaftLoom loom = twill(2, 2);
        loom.colour(true, 0, 1);
        loom.colour(true, 1, 2);
        loom.colour(false, 0, 3);
        loom.colour(false, 1, 4);
        checks.index("nothing woven", () -> loom.seen(0, 0, false));
        loom.weave(2);
        checks.due("end over, front", loom.seen(0, 0, false), 1);
        checks.due("end over, back", loom.seen(0, 0, true), 3);
        checks.due("pick over, front", loom.seen(1, 0, false), 3);
        checks.due("pick over, back", loom.seen(1, 0, true), 2);
        checks.due("second pick, front", loom.seen(1, 1, false), 2);
        checks.due("second pick, back", loom.seen(1, 1, true), 4);
        loom.colour(true, 0, 9);
        loom.colour(false, 0, 8);
        checks.due("dyed when woven, front", loom.seen(0, 0, false), 9);
        checks.due("dyed when woven, back", loom.seen(0, 0, true), 8);
    }

    private static void floats() {
        // end 0 is over picks 0 1 . 3 4 5 . ., so its floats on the front are 2 and 3, on the back 1 and 2
        ShaftLoom loom = Looms.woven("##.###..", "........", "########", "#.#.#.#.", ".#######");
        dueFloats(loom, 0, 3, 2);
        dueFloats(loom, 1, 0, 8);
        dueFloats(loom, 2, 8, 0);
        dueFloats(loom, 3, 1, 1);
        dueFloats(loom, 4, 7, 1);
        // pick 0 has ends # . # # . and is seen on the front where the end is not over
        dueFloats(loom, 100, 1, 2);
        dueFloats(loom, 101, 1, 1);
        // pick 2 has . . # # #, pick 7 has . . # . #
        dueFloats(loom, 102, 2, 3);
        dueFloats(loom, 107, 2, 1);
        loom.unweave(5);
        dueFloats(loom, 0, 2, 1);
        dueFloats(loom, 1, 0, 3);
        checks.index("a pick taken off", () -> loom.longest(103, false));
    }

    private static void floatsOfThreads() {
        ShaftLoom loom = new ShaftLoom();
        checks.index("no end at all", () -> loom.longest(0, false));
        checks.index("no pick at all", () -> loom.longest(100, false));
        loom.run(true, 0, 2);
        loom.run(false, 0, 2);
        dueFloats(loom, 2, 0, 0);
        checks.index("a pick not woven", () -> loom.longest(100, true));
        loom.weave(2);
        for (int wrong : new int[] {-1, 3, 99, 102, Integer.MIN_VALUE, Integer.MAX_VALUE}) {
            checks.index("thread " + wrong, () -> loom.longest(wrong, false));
            checks.index("thread " + wrong + " back", () -> loom.longest(wrong, true));
        }
        dueFloats(loom, 0, 0, 2);
        dueFloats(loom, 101, 3, 0);
        loom.unweave(2);
        dueFloats(loom, 0, 0, 0);
        loom.clear(true);
        checks.index("an end that is gone", () -> loom.longest(0, false));
    }

    private static void periods() {
        ShaftLoom loom = twill(4, 12);
        loom.tie(3, 0, false);
        loom.tie(3, 0, true);
        checks.state("across, nothing woven", () -> loom.period(false));
        checks.state("along, nothing woven", () -> loom.period(true));
        loom.again(true, 4, 1, false);
        loom.weave(1);
        checks.due("along one pick", loom.period(true), 1);
        checks.due("across one pick of # . . #", loom.period(false), 4);
        loom.weave(3);
        checks.due("along, no lesser one", loom.period(true), 4);
        loom.weave(2);
        checks.due("along six picks", loom.period(true), 4);
        checks.due("across eight ends", loom.period(false), 4);
        loom.unweave(6);
        checks.state("all off", () -> loom.period(true));
    }

    private static void periodsOfOddRests() {
        ShaftLoom loom = Looms.woven("#..#.", "#..#.", "#..#.");
        checks.due("along, a rest that begins anew", loom.period(true), 3);
        checks.due("across, all alike", loom.period(false), 1);
        ShaftLoom last = Looms.woven("#", ".", "#", ".", ".");
        checks.due("across, the last one spoils it", last.period(false), 5);
        ShaftLoom ends = Looms.woven("#", ".", ".", ".", "#");
        checks.due("across, the last like the first", ends.period(false), 4);
    }

    private static void dueFloats(ShaftLoom loom, int thread, int front, int back) {
        checks.due("longest of " + thread + " on the front", loom.longest(thread, false), front);
        checks.due("longest of " + thread + " on the back", loom.longest(thread, true), back);
    }

    /** A straight draft of so many shafts, each tied to its own treadle and the next; so many picks. */
    private static ShaftLoom twill(int shafts, int picks) {
        ShaftLoom loom = new ShaftLoom();
        loom.run(true, 0, shafts - 1);
        for (int shaft = 0; shaft < shafts; shaft++) {
            loom.tie(shaft, shaft, true);
            if (shafts > 2) {
                loom.tie(shaft, (shaft + 1) % shafts, true);
            }
        }
        for (int pick = 0; pick < picks; pick++) {
            loom.run(false, pick % shafts, pick % shafts);
        }
        return loom;
    }
}
