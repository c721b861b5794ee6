/** Sentence by sentence, the boundary cases of promises 16 to 18 and of the terms that they rest on. */
public final class PictureBoundsTest {
    private static final Checks checks = new Checks("PictureBoundsTest");
    private static final boolean[] BOTH = {true, false};

    public static void main(String[] args) {
        checks.each(
                PictureBoundsTest::eachSize,
                PictureBoundsTest::nothingPainted,
                PictureBoundsTest::pictureTooSmallOrLarge,
                PictureBoundsTest::pictureLeavesTheRest,
                PictureBoundsTest::paintAnswers,
                PictureBoundsTest::paintNoCrossing,
                PictureBoundsTest::fewestAndMost,
                PictureBoundsTest::likeEndsAndPicks,
                PictureBoundsTest::numberedAsTheyStand,
                PictureBoundsTest::tiedWhereOver,
                PictureBoundsTest::withoutAdopting,
                PictureBoundsTest::becomesTheDraft,
                PictureBoundsTest::nothingIsWovenThen,
                PictureBoundsTest::adoptTwelve,
                PictureBoundsTest::adoptMoreThanTwelve);
        checks.end();
    }

    private static void eachSize() {
        checks.sentence("Terms: A PICTURE has w ends and h picks, w and h 1 .. 30");
        for (int w = 1; w <= 30; w++) {
            for (int h = 1; h <= 30; h++) {
                dueSize(w, h);
            }
        }
    }

    private static void dueSize(int w, int h) {
        ShaftLoom loom = new ShaftLoom();
        String what = w + " by " + h;
        checks.due(what, Checks.thrownBy(() -> loom.picture(w, h)), "nothing");
        checks.due(what + ", last crossing", loom.paint(w - 1, h - 1, true), false);
        checks.index(what + ", end behind", () -> loom.paint(w, h - 1, true));
        checks.index(what + ", pick behind", () -> loom.paint(w - 1, h, true));
        checks.due(what + ", its draft", loom.factor(true), 100 * Math.min(2, w) + Math.min(2, h));
        checks.due(what + ", ends", loom.draft(3, 0, 0), w);
        checks.due(what + ", picks", loom.draft(4, 0, 0), h);
    }

    private static void nothingPainted() {
        checks.sentence("Promise 16: A picture of w ends and h picks, nothing painted");
        int[] places = {0, 14, 29};
        for (int end : places) {
            for (int pick : places) {
                dueBlankAgain(end, pick);
            }
        }
    }

    private static void dueBlankAgain(int end, int pick) {
        ShaftLoom loom = new ShaftLoom();
        loom.picture(30, 30);
        loom.paint(end, pick, true);
        checks.due("painted", loom.factor(false), 202);
        loom.picture(30, 30);
        checks.due("the same size anew, all blank", loom.factor(false), 101);
        checks.due("the same size anew", loom.paint(end, pick, true), false);
        loom.picture(1, 1);
        loom.picture(30, 30);
        checks.due("smaller and larger again, all blank", loom.factor(false), 101);
        checks.due("smaller and larger again", loom.paint(end, pick, true), false);
    }

    private static void pictureTooSmallOrLarge() {
        checks.sentence("Promise 16: IllegalArgumentException, when w or h is not 1 .. 30");
        Refusals fresh = new Refusals(checks, "new", ShaftLoom::new);
        Refusals busy = new Refusals(checks, "busy", Looms::busy);
        for (Refusals refusals : new Refusals[] {fresh, busy}) {
            for (int fine : new int[] {1, 30}) {
                refusals.argumentBeyond("width", 1, 30, (loom, w) -> loom.picture(w, fine));
                refusals.argumentBeyond("height", 1, 30, (loom, h) -> loom.picture(fine, h));
            }
            refusals.argumentBeyond("both", 1, 30, (loom, size) -> loom.picture(size, size));
            refusals.argument("width -1", loom -> loom.picture(-1, 5));
            refusals.argument("height -1", loom -> loom.picture(5, -1));
            refusals.argument("no size at all, one too large", loom -> loom.picture(0, 31));
            refusals.argument("one too large, none at all", loom -> loom.picture(31, 0));
        }
    }

    private static void pictureLeavesTheRest() {
        checks.sentence("Promise 16: A picture .. (the draft and the cloth are others)");
        ShaftLoom loom = Looms.flat(2, 3, true);
        loom.picture(30, 30);
        checks.due("ends", loom.draft(3, 0, 0), 2);
        checks.due("picks", loom.draft(4, 0, 0), 3);
        checks.due("woven", loom.draft(5, 0, 0), 3);
        checks.due("over", loom.over(1, 2), 1);
        loom.paint(1, 2, true);
        loom.paint(1, 2, false);
        checks.due("over when not painted", loom.over(1, 2), 1);
        loom.paint(0, 0, true);
        loom.unweave(3);
        checks.due("painted, not woven", loom.paint(0, 0, true), true);
    }

    private static void paintAnswers() {
        checks.sentence("Promise 17: A crossing is painted, or not: whether it was");
        for (int end = 0; end < 30; end++) {
            for (int pick = 0; pick < 30; pick++) {
                ShaftLoom loom = new ShaftLoom();
                loom.picture(30, 30);
                checks.due("off, was not", loom.paint(end, pick, false), false);
                checks.due("on, was not", loom.paint(end, pick, true), false);
                checks.due("on, was", loom.paint(end, pick, true), true);
                checks.due("its neighbour", loom.paint((end + 1) % 30, pick, false), false);
                checks.due("its other neighbour", loom.paint(end, (pick + 1) % 30, false), false);
                checks.due("one crossing alone", loom.factor(false), 202);
                checks.due("off, was", loom.paint(end, pick, false), true);
                checks.due("none", loom.factor(false), 101);
            }
        }
    }

    private static void paintNoCrossing() {
        checks.sentence("Promise 17: IndexOutOfBoundsException, when there is none such");
        int[][] sizes = {{1, 1}, {1, 30}, {30, 1}, {29, 30}, {30, 29}, {30, 30}, {4, 7}};
        for (int[] size : sizes) {
            int w = size[0];
            int h = size[1];
            Refusals refusals = new Refusals(checks, w + " by " + h, () -> fullCorners(w, h));
            for (boolean on : BOTH) {
                for (int pick : new int[] {0, h - 1}) {
                    refusals.indexBeyond("end", 0, w - 1, (loom, end) -> loom.paint(end, pick, on));
                }
                for (int end : new int[] {0, w - 1}) {
                    refusals.indexBeyond("pick", 0, h - 1, (loom, pick) -> loom.paint(end, pick, on));
                }
                refusals.indexBeyond("both", 0, Math.max(w, h) - 1, (loom, both) -> loom.paint(both, both, on));
                refusals.index("a thread's number", loom -> loom.paint(0, 100, on));
            }
        }
        ShaftLoom smaller = fullCorners(30, 30);
        smaller.picture(29, 28);
        checks.index("an end of the picture before", () -> smaller.paint(29, 0, true));
        checks.index("a pick of the picture before", () -> smaller.paint(0, 28, true));
    }

    private static ShaftLoom fullCorners(int w, int h) {
        ShaftLoom loom = new ShaftLoom();
        loom.picture(w, h);
        loom.paint(0, 0, true);
        loom.paint(w - 1, 0, true);
        loom.paint(0, h - 1, true);
        loom.paint(w - 1, h - 1, true);
        return loom;
    }

    private static void fewestAndMost() {
        checks.sentence("Promise 18: What ITS DRAFT of the picture takes: 100 times the shafts, and the treadles");
        checks.due("new", new ShaftLoom().factor(false), 101);
        for (int n = 1; n <= 30; n++) {
            checks.due(n + " apart", diagonal(n, n).factor(false), 101 * n);
            if (n < 30) {
                checks.due(n + " shafts, one treadle more", diagonal(n, n + 1).factor(false), 101 * n + 1);
                checks.due(n + " treadles, one shaft more", diagonal(n + 1, n).factor(false), 101 * n + 100);
            }
        }
        ShaftLoom blank = new ShaftLoom();
        blank.picture(30, 30);
        checks.due("blank", blank.factor(false), 101);
        // 450 crossings fill half of the largest picture, which is as much as one loom has calls for
        ShaftLoom half = new ShaftLoom();
        half.picture(30, 30);
        for (int place = 0; place < 450; place++) {
            half.paint(place % 30, place / 30, true);
        }
        checks.due("half full", half.factor(false), 102);
    }

    /** End e is over pick e alone: all of the lesser side are apart, and on the larger side one blank kind. */
    private static ShaftLoom diagonal(int w, int h) {
        ShaftLoom loom = new ShaftLoom();
        loom.picture(w, h);
        for (int i = 0; i < Math.min(w, h); i++) {
            loom.paint(i, i, true);
        }
        return loom;
    }

    private static void likeEndsAndPicks() {
        checks.sentence("Terms: ends with the same crossings are on one shaft, others on others;"
                + " treadles and picks likewise");
        for (int place = 0; place < 30; place++) {
            ShaftLoom end = new ShaftLoom();
            end.picture(2, 30);
            end.paint(1, place, true);
            checks.due("one crossing sets an end apart", end.factor(false), 202);
            end.paint(0, place, true);
            checks.due("alike again", end.factor(false), 102);
            ShaftLoom pick = new ShaftLoom();
            pick.picture(30, 2);
            pick.paint(place, 1, true);
            checks.due("one crossing sets a pick apart", pick.factor(false), 202);
            pick.paint(place, 0, true);
            checks.due("alike again", pick.factor(false), 201);
        }
        checks.due("one end", Looms.painted("#.#.").factor(false), 102);
        checks.due("one pick", Looms.painted("#", ".", "#").factor(false), 201);
    }

    private static void numberedAsTheyStand() {
        checks.sentence("Terms: shafts numbered as their first ends stand; treadles and picks likewise");
        ShaftLoom loom = Looms.painted("###", "...", "##.", "...", "###", "#..");
        loom.factor(true);
        Looms.dueRow(checks, loom, true, 0, 1, 2, 1, 0, 3);
        Looms.dueRow(checks, loom, false, 0, 1, 2);
        ShaftLoom turned = Looms.painted("#.#.##", "#.#.#.", "#...#.");
        turned.factor(true);
        Looms.dueRow(checks, turned, true, 0, 1, 2);
        Looms.dueRow(checks, turned, false, 0, 1, 2, 1, 0, 3);
        ShaftLoom blankFirst = Looms.painted("..", "##");
        blankFirst.factor(true);
        Looms.dueRow(checks, blankFirst, true, 0, 1);
    }

    private static void tiedWhereOver() {
        checks.sentence("Terms: a shaft is tied to a treadle where its ends are over its picks");
        for (int shaft = 0; shaft < 12; shaft++) {
            for (int treadle = 0; treadle < 12; treadle++) {
                ShaftLoom loom = diagonal(12, 12);
                loom.factor(true);
                checks.due("tie " + shaft + " " + treadle, loom.draft(2, shaft, treadle), shaft == treadle ? 1 : 0);
            }
        }
        ShaftLoom blank = new ShaftLoom();
        blank.tie(0, 0, true);
        blank.factor(true);
        checks.due("blank", blank.draft(2, 0, 0), 0);
        ShaftLoom full = Looms.painted("#");
        full.factor(true);
        checks.due("full", full.draft(2, 0, 0), 1);
    }

    private static void withoutAdopting() {
        checks.sentence("Promise 18: With adopt it becomes the draft (without it nothing changes)");
        String before = Visible.after(Looms::busy, loom -> { });
        String after = Visible.after(Looms::busy, loom -> loom.factor(false));
        checks.due("all stays", after.equals(before), true);
        checks.due("more than 12 of both", diagonal(30, 30).factor(false), 3030);
    }

    private static void becomesTheDraft() {
        checks.sentence("Promise 18: With adopt it becomes the draft, the tie-up and all");
        ShaftLoom loom = Looms.sized(30, 30);
        for (int place = 0; place < 144; place++) {
            loom.tie(place / 12, place % 12, true);
        }
        loom.picture(3, 2);
        loom.paint(1, 0, true);
        checks.due("factor", loom.factor(true), 202);
        Looms.dueRow(checks, loom, true, 0, 1, 0);
        Looms.dueRow(checks, loom, false, 0, 1);
        for (int place = 0; place < 144; place++) {
            checks.due("tie", loom.draft(2, place / 12, place % 12), place == 12 ? 1 : 0);
        }
        checks.due("the rows have room", loom.run(true, 0, 11), 15);
        checks.due("the picture stays", loom.paint(1, 0, true), true);
        checks.due("adopted once more", loom.factor(true), 202);
        Looms.dueRow(checks, loom, true, 0, 1, 0);
    }

    private static void nothingIsWovenThen() {
        checks.sentence("Promise 18: nothing is woven then");
        for (int woven : new int[] {0, 1, 30}) {
            ShaftLoom loom = Looms.sizedAndWoven(30, 30, woven);
            loom.picture(2, 2);
            loom.paint(1, 1, true);
            checks.due("adopt with " + woven + " woven", loom.factor(true), 202);
            checks.due("woven", loom.draft(5, 0, 0), 0);
            checks.argument("nothing to take off", () -> loom.unweave(1));
            checks.index("no crossing", () -> loom.over(0, 0));
            checks.index("no pick", () -> loom.longest(100, false));
            checks.due("the threading can be changed", loom.run(true, 1, 1), 3);
            checks.due("all is to be woven", loom.weave(30), 2);
            checks.due("as painted", loom.over(1, 1), 1);
            checks.due("as painted", loom.over(0, 1), 0);
        }
    }

    private static void adoptTwelve() {
        checks.sentence("Promise 18: (12 shafts and treadles can be adopted)");
        for (int n = 1; n <= 12; n++) {
            ShaftLoom loom = diagonal(n, n);
            checks.due("adopt " + n, loom.factor(true), 101 * n);
            checks.due("last shaft", loom.draft(0, n - 1, 0), n - 1);
            checks.due("last treadle", loom.draft(1, n - 1, 0), n - 1);
            checks.due("weave", loom.weave(30), n);
            checks.due("last crossing", loom.over(n - 1, n - 1), 1);
        }
        checks.due("12 shafts of 30 ends", diagonal(30, 11).factor(true), 1211);
        checks.due("12 treadles of 30 picks", diagonal(11, 30).factor(true), 1112);
        ShaftLoom most = twelveOfThirty();
        checks.due("12 of both, 30 of both", most.factor(true), 1212);
        checks.due("ends", most.draft(3, 0, 0), 30);
        checks.due("picks", most.draft(4, 0, 0), 30);
        checks.due("shaft of the last end", most.draft(0, 29, 0), 11);
        checks.due("treadle of the last pick", most.draft(1, 29, 0), 11);
    }

    /** Ends and picks 0 to 10 apart, all others alike and blank. */
    private static ShaftLoom twelveOfThirty() {
        ShaftLoom loom = new ShaftLoom();
        loom.picture(30, 30);
        for (int i = 0; i < 11; i++) {
            loom.paint(i, i, true);
        }
        return loom;
    }

    private static void adoptMoreThanTwelve() {
        checks.sentence("Promise 18: IllegalStateException, when adopt is asked for and there would be more than 12"
                + " shafts or treadles");
        int[][] sizes = {{13, 13}, {13, 12}, {12, 13}, {14, 12}, {30, 12}, {12, 30}, {30, 30}};
        for (int[] size : sizes) {
            int w = size[0];
            int h = size[1];
            Refusals refusals = new Refusals(checks, w + " by " + h, () -> diagonal(w, h));
            refusals.state("adopt", loom -> loom.factor(true));
            Refusals woven = new Refusals(checks, w + " by " + h + ", woven", () -> wovenDiagonal(w, h));
            woven.state("adopt", loom -> loom.factor(true));
            int shafts = Math.min(w, h + 1);
            int treadles = Math.min(h, w + 1);
            checks.due("without adopt", diagonal(w, h).factor(false), 100 * shafts + treadles);
        }
        checks.due("13 shafts alone", bits(13, 4).factor(false), 1304);
        checks.state("13 shafts alone, adopt", () -> bits(13, 4).factor(true));
        checks.due("12 shafts alone, adopt", bits(12, 4).factor(true), 1204);
        checks.due("13 treadles alone", bits(4, 13).factor(false), 413);
        checks.state("13 treadles alone, adopt", () -> bits(4, 13).factor(true));
        checks.due("12 treadles alone, adopt", bits(4, 12).factor(true), 412);
    }

    private static ShaftLoom wovenDiagonal(int w, int h) {
        ShaftLoom loom = diagonal(w, h);
        loom.run(true, 3, 4);
        loom.run(false, 5, 7);
        loom.tie(3, 5, true);
        loom.weave(2);
        return loom;
    }

    /** The ends (or picks, if those are more) bear their numbers, counted from 1, in bits. */
    private static ShaftLoom bits(int w, int h) {
        ShaftLoom loom = new ShaftLoom();
        loom.picture(w, h);
        for (int place = 0; place < w * h; place++) {
            int end = place % w;
            int pick = place / w;
            loom.paint(end, pick, (w > h ? end + 1 >> pick & 1 : pick + 1 >> end & 1) == 1);
        }
        return loom;
    }
}
