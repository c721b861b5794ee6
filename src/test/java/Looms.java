/** Looms set up from pictures: one text for each end, with # where it is over, . where it is under. */
final class Looms {
    private Looms() {
    }

    static ShaftLoom painted(String... ends) {
        ShaftLoom loom = new ShaftLoom();
        loom.picture(ends.length, ends[0].length());
        for (int end = 0; end < ends.length; end++) {
            for (int pick = 0; pick < ends[end].length(); pick++) {
                loom.paint(end, pick, ends[end].charAt(pick) == '#');
            }
        }
        return loom;
    }

    static ShaftLoom woven(String... ends) {
        ShaftLoom loom = painted(ends);
        loom.factor(true);
        loom.weave(30);
        return loom;
    }

    /** Checks the whole threading (warp) or treadling of a loom. */
    static void dueRow(Checks checks, ShaftLoom loom, boolean warp, int... kinds) {
        checks.due("length of the row", loom.draft(warp ? 3 : 4, 0, 0), kinds.length);
        for (int i = 0; i < kinds.length; i++) {
            checks.due("place " + i + " of the row", loom.draft(warp ? 0 : 1, i, 0), kinds[i]);
        }
        checks.due("behind the row", loom.draft(warp ? 0 : 1, kinds.length, 0), ShaftLoom.NONE);
    }
}
