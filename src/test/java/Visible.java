/**
 * All that can be seen of a loom from outside, as a text, to tell whether a call changed anything.
 * Each part is read from a loom made anew: reading colours and paint changes them, and all the
 * parts together would be more than the 512 calls that a loom is promised to answer.
 */
final class Visible {
    interface Maker {
        ShaftLoom make();
    }

    interface Use {
        void of(ShaftLoom loom);
    }

    private interface Answer {
        long give();
    }

    private final Maker maker;
    private final Use use;
    private final StringBuilder text = new StringBuilder();

    private Visible(Maker maker, Use use) {
        this.maker = maker;
        this.use = use;
    }

    /** What is seen of a loom after a call that may be refused. */
    static String after(Maker maker, Use use) {
        Visible seen = new Visible(maker, use);
        seen.readRows();
        seen.readTies();
        seen.readColours();
        for (int pick = 0; pick < 30; pick += 10) {
            seen.readCloth(pick, pick + 10);
            seen.readPicture(pick, pick + 10);
        }
        seen.readWhole();
        return seen.text.toString();
    }

    private ShaftLoom used() {
        ShaftLoom loom = maker.make();
        Checks.thrownBy(() -> use.of(loom));
        return loom;
    }

    private void write(Answer answer) {
        try {
            text.append(answer.give()).append(' ');
        } catch (RuntimeException e) {
            text.append("x ");
        }
    }

    private void readRows() {
        ShaftLoom loom = used();
        text.append("rows ");
        for (int what = 3; what <= 5; what++) {
            int count = what;
            write(() -> loom.draft(count, 0, 0));
        }
        for (int i = 0; i < 30; i++) {
            int place = i;
            write(() -> loom.draft(0, place, 0));
            write(() -> loom.draft(1, place, 0));
        }
    }

    private void readTies() {
        ShaftLoom loom = used();
        text.append("ties ");
        for (int i = 0; i < 144; i++) {
            int place = i;
            write(() -> loom.draft(2, place / 12, place % 12));
        }
    }

    private void readColours() {
        ShaftLoom loom = used();
        text.append("colours ");
        for (int i = 0; i < 30; i++) {
            int place = i;
            write(() -> loom.colour(true, place, 0));
            write(() -> loom.colour(false, place, 0));
        }
    }

    private void readCloth(int from, int to) {
        ShaftLoom loom = used();
        text.append("cloth ");
        for (int i = from * 30; i < to * 30; i++) {
            int place = i;
            write(() -> loom.over(place % 30, place / 30));
        }
    }

    private void readPicture(int from, int to) {
        ShaftLoom loom = used();
        text.append("picture ");
        for (int i = from * 30; i < to * 30; i++) {
            int place = i;
            write(() -> loom.paint(place % 30, place / 30, false) ? 1 : 0);
        }
    }

    private void readWhole() {
        ShaftLoom loom = used();
        text.append("whole ");
        write(() -> loom.layers());
        write(() -> loom.period(true));
        write(() -> loom.period(false));
        write(() -> loom.factor(false));
    }
}
