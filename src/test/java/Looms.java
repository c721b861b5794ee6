/**
 * Looms set up by size, or from pictures: one text for each end, with # where it is over, . where it is under.
 * Few calls each, since a loom is promised to answer for 512 of them alone.
 */
final class Looms {
    private Looms() {
    }

    static ShaftLoom painted(String... ends) {
        ShaftLoom loom = new ShaftLoom();
        loom.picture(ends.length, ends[0].length());
        for (int end = 0; end < ends.length; end++) {
            for (int pick = 0; pick < ends[end].length(); pick++) {
                if (ends[end].charAt(pick) == '#') {
                    loom.paint(end, pick, true);
                }
            }
        }
        return loom;
    }

    static ShaftLoom woven(String... ends) {
        ShaftLoom loom = painted(ends);
        loom.factor(true);
        loom.weave(30);
        return loom;
    }

    /** Nothing tied; the shafts, and the treadles, are 0 to 11 again and again. */
    static ShaftLoom sized(int ends, int picks) {
        ShaftLoom loom = new ShaftLoom();
        lengthen(loom, true, ends);
        lengthen(loom, false, picks);
        return loom;
    }

    static void lengthen(ShaftLoom loom, boolean warp, int more) {
        for (int left = more; left > 0; left -= 12) {
            loom.run(warp, 0, Math.min(left, 12) - 1);
        }
    }

    static ShaftLoom sizedAndWoven(int ends, int picks, int woven) {
        ShaftLoom loom = sized(ends, picks);
        loom.weave(woven);
        return loom;
    }

    /** All ends on shaft 0, all picks on treadle 0, all woven; each end over each pick, or under. */
    static ShaftLoom flat(int ends, int picks, boolean over) {
        ShaftLoom loom = new ShaftLoom();
        loom.tie(0, 0, over);
        loom.run(true, 0, 0);
        loom.again(true, 1, ends - 1, false);
        loom.run(false, 0, 0);
        loom.again(false, 1, picks - 1, false);
        loom.weave(picks);
        return loom;
    }

    /** Plain weave, woven, end 0 over pick 0. */
    static ShaftLoom plainWeave(int ends, int picks) {
        ShaftLoom loom = new ShaftLoom();
        loom.tie(0, 0, true);
        loom.tie(1, 1, true);
        for (int end = 0; end < ends; end++) {
            loom.run(true, end % 2, end % 2);
        }
        for (int pick = 0; pick < picks; pick++) {
            loom.run(false, pick % 2, pick % 2);
        }
        loom.weave(picks);
        return loom;
    }

    /** Something of everything: 5 ends, 6 picks, 3 of them woven, ties, colours, a picture of 4 by 3. */
    static ShaftLoom busy() {
        ShaftLoom loom = unwoven();
        loom.weave(3);
        return loom;
    }

    /** The busy loom before anything is woven. */
    static ShaftLoom unwoven() {
        ShaftLoom loom = painted("#..", ".#.", "##.", "..#");
        loom.run(true, 1, 5);
        loom.run(false, 11, 6);
        loom.tie(1, 11, true);
        loom.tie(3, 10, true);
        loom.tie(5, 9, true);
        loom.tie(11, 11, true);
        loom.colour(true, 0, 1);
        loom.colour(true, 29, 2);
        loom.colour(false, 0, 3);
        loom.colour(false, 29, 9);
        return loom;
    }

    /** Checks the whole threading (warp) or treadling of a loom. */
    static void dueRow(Checks checks, ShaftLoom loom, boolean warp, int... kinds) {
        checks.due("length of the row", loom.draft(warp ? 3 : 4, 0, 0), kinds.length);
        for (int i = 0; i < kinds.length; i++) {
            checks.due("place " + i + " of the row", loom.draft(warp ? 0 : 1, i, 0), kinds[i]);
        }
        checks.due("behind the row", loom.draft(warp ? 0 : 1, kinds.length, 0), ShaftLoom.NONE);
    }
}
