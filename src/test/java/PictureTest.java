/** Promises 16 to 18: picture, paint, factor. */
public final class PictureTest {
    private static final Checks checks = new Checks("PictureTest");

    public static void main(String[] args) {
        sizes();
        paints();
        factors();
        adopts();
        adoptsInPlaceOfAll();
        tooMany();
        checks.end();
    }

    private static void sizes() {
        ShaftLoom loom = new ShaftLoom();
        for (int wrong : new int[] {0, -1, 31, Integer.MIN_VALUE, Integer.MAX_VALUE}) {
            checks.argument("width " + wrong, () -> loom.picture(wrong, 1));
            checks.argument("height " + wrong, () -> loom.picture(1, wrong));
        }
        loom.paint(0, 0, true);
        checks.argument("refused", () -> loom.picture(1, 31));
        checks.due("the picture stays when refused", loom.paint(0, 0, true), true);
        loom.picture(1, 1);
        checks.due("nothing painted", loom.paint(0, 0, false), false);
        loom.picture(30, 1);
        checks.due("last end", loom.paint(29, 0, true), false);
        checks.index("pick behind it", () -> loom.paint(0, 1, true));
        loom.picture(1, 30);
        checks.due("last pick", loom.paint(0, 29, true), false);
        checks.index("end behind it", () -> loom.paint(1, 0, true));
        loom.picture(30, 30);
        checks.due("not painted from before", loom.paint(0, 29, false), false);
        checks.due("last crossing", loom.paint(29, 29, true), false);
    }

    private static void paints() {
        ShaftLoom loom = new ShaftLoom();
        loom.picture(3, 2);
        checks.due("paint", loom.paint(2, 1, true), false);
        checks.due("paint once more", loom.paint(2, 1, true), true);
        checks.due("a neighbour", loom.paint(1, 1, false), false);
        checks.due("take off", loom.paint(2, 1, false), true);
        checks.due("take off once more", loom.paint(2, 1, false), false);
        for (int wrong : new int[] {-1, 3, Integer.MIN_VALUE, Integer.MAX_VALUE}) {
            checks.index("end " + wrong, () -> loom.paint(wrong, 0, true));
        }
        for (int wrong : new int[] {-1, 2, 100, Integer.MIN_VALUE, Integer.MAX_VALUE}) {
            checks.index("pick " + wrong, () -> loom.paint(0, wrong, false));
        }
    }

    private static void factors() {
        checks.due("new", new ShaftLoom().factor(false), 101);
        checks.due("blank", Looms.painted("....", "....").factor(false), 101);
        checks.due("full", Looms.painted("####", "####").factor(false), 101);
        checks.due("two shafts, two treadles", Looms.painted("#.#", ".#.", "#.#").factor(false), 202);
        checks.due("two shafts, one treadle", Looms.painted("##", "..").factor(false), 201);
        checks.due("one shaft, two treadles", Looms.painted("#.", "#.").factor(false), 102);
        checks.due("two shafts, four treadles", Looms.painted("##..", "#.#.").factor(false), 204);
        ShaftLoom loom = Looms.painted("#.", ".#");
        loom.run(true, 5, 7);
        loom.run(false, 5, 5);
        loom.tie(5, 5, true);
        loom.weave(1);
        checks.due("without adopting", loom.factor(false), 202);
        checks.due("the threading stays", loom.draft(0, 2, 0), 7);
        checks.due("the treadling stays", loom.draft(1, 0, 0), 5);
        checks.due("the tie-up stays", loom.draft(2, 5, 5), 1);
        checks.due("the cloth stays", loom.draft(5, 0, 0), 1);
    }

    private static void adopts() {
        ShaftLoom loom = Looms.painted("..#.#", "#...#", "..#.#", "#...#", "##.##");
        // pick 3 has the same crossings as pick 1
        checks.due("factor", loom.factor(true), 304);
        Looms.dueRow(checks, loom, true, 0, 1, 0, 1, 2);
        Looms.dueRow(checks, loom, false, 0, 1, 2, 1, 3);
        dueTies(loom, "..##", "#..#", "##.#");

        ShaftLoom twice = Looms.painted("#.##", "#.##", "..#.");
        checks.due("factor with like picks", twice.factor(true), 203);
        Looms.dueRow(checks, twice, true, 0, 0, 1);
        Looms.dueRow(checks, twice, false, 0, 1, 2, 0);
        dueTies(twice, "#.#", "..#");
        checks.due("weave", twice.weave(30), 4);
        dueCloth(twice, "#.##", "#.##", "..#.");
    }

    private static void adoptsInPlaceOfAll() {
        ShaftLoom loom = new ShaftLoom();
        loom.run(true, 0, 11);
        loom.run(false, 11, 0);
        for (int shaft = 0; shaft < 12; shaft++) {
            for (int treadle = 0; treadle < 12; treadle++) {
                loom.tie(shaft, treadle, true);
            }
        }
        loom.weave(12);
        loom.colour(true, 0, 6);
        loom.colour(false, 0, 7);
        loom.picture(2, 3);
        loom.paint(1, 2, true);
        checks.due("adopt when woven", loom.factor(true), 202);
        checks.due("nothing is woven then", loom.draft(5, 0, 0), 0);
        checks.state("no cloth", loom::layers);
        checks.index("no crossing", () -> loom.over(0, 0));
        Looms.dueRow(checks, loom, true, 0, 1);
        Looms.dueRow(checks, loom, false, 0, 0, 1);
        dueTies(loom, "..", ".#");
        checks.due("threading can be changed", loom.run(true, 1, 0), 4);
        checks.due("weave", loom.weave(30), 3);
        dueCloth(loom, "...", "..#", "..#", "...");
        checks.due("colours stay, pick", loom.seen(0, 0, false), 7);
        checks.due("colours stay, end", loom.seen(0, 0, true), 6);
        checks.due("the picture stays", loom.paint(1, 2, true), true);
    }

    private static void tooMany() {
        ShaftLoom shafts = apart(13, 4);
        checks.due("13 shafts", shafts.factor(false), 1304);
        dueRefused(shafts);
        ShaftLoom treadles = apart(4, 13);
        checks.due("13 treadles", treadles.factor(false), 413);
        dueRefused(treadles);
        ShaftLoom both = diagonal(12);
        checks.due("12 of both", both.factor(true), 1212);
        checks.due("last shaft", both.draft(0, 11, 0), 11);
        checks.due("last treadle", both.draft(1, 11, 0), 11);
        checks.due("last tie", both.draft(2, 11, 11), 1);
        ShaftLoom most = diagonal(30);
        checks.due("30 of both", most.factor(false), 3030);
        dueRefused(most);
    }

    private static void dueRefused(ShaftLoom loom) {
        loom.run(true, 3, 4);
        loom.run(false, 5, 5);
        loom.tie(3, 5, true);
        loom.weave(1);
        checks.state("adopt", () -> loom.factor(true));
        Looms.dueRow(checks, loom, true, 3, 4);
        Looms.dueRow(checks, loom, false, 5);
        checks.due("tie", loom.draft(2, 3, 5), 1);
        checks.due("no tie", loom.draft(2, 0, 0), 0);
        checks.due("woven", loom.draft(5, 0, 0), 1);
    }

    /** A picture in which the numbers of the longer side, counted from 1, are written in bits. */
    private static ShaftLoom apart(int w, int h) {
        ShaftLoom loom = new ShaftLoom();
        loom.picture(w, h);
        for (int end = 0; end < w; end++) {
            for (int pick = 0; pick < h; pick++) {
                boolean on = w > h ? (end + 1 >> pick & 1) == 1 : (pick + 1 >> end & 1) == 1;
                loom.paint(end, pick, on);
            }
        }
        return loom;
    }

    private static ShaftLoom diagonal(int n) {
        ShaftLoom loom = new ShaftLoom();
        loom.picture(n, n);
        for (int i = 0; i < n; i++) {
            loom.paint(i, i, true);
        }
        return loom;
    }

    /** One text for each shaft; all that is not written is not tied. */
    private static void dueTies(ShaftLoom loom, String... shafts) {
        for (int shaft = 0; shaft < 12; shaft++) {
            for (int treadle = 0; treadle < 12; treadle++) {
                boolean written = shaft < shafts.length && treadle < shafts[shaft].length();
                boolean tied = written && shafts[shaft].charAt(treadle) == '#';
                checks.due("tie " + shaft + " " + treadle, loom.draft(2, shaft, treadle), tied ? 1 : 0);
            }
        }
    }

    private static void dueCloth(ShaftLoom loom, String... ends) {
        for (int end = 0; end < ends.length; end++) {
            for (int pick = 0; pick < ends[end].length(); pick++) {
                int due = ends[end].charAt(pick) == '#' ? 1 : 0;
                checks.due("over " + end + " " + pick, loom.over(end, pick), due);
            }
        }
    }
}
