import java.util.Arrays;

/**
 * A workshop for a shaft loom: drafts, cloth woven pick by pick, what is seen on both sides, floats,
 * repeats, layers, and the least draft for a painted cloth.
 */
public final class ShaftLoom {
    /** There is none. */
    public static final int NONE = -1;

    /** How many shafts there are, and how many treadles. */
    private static final int KINDS = 12;
    /** How many ends there are at most, and how many picks. */
    private static final int MOST = 30;
    private static final int COLOURS = 10;
    /** The thread number of pick 0. */
    private static final int FIRST_PICK = 100;

    private final Row threading = new Row();
    private final Row treadling = new Row();
    /** For each shaft one bit for each treadle that it is tied to. */
    private final int[] ties = new int[KINDS];
    private final int[] endColours = new int[MOST];
    private final int[] pickColours = new int[MOST];
    private final Crossings cloth = new Crossings();
    private final Pile pile = new Pile();
    private final Crossings painting = new Crossings();
    // The draft of the painting has rows of its own, since factor may be asked without adopting it.
    private final Row paintedThreading = new Row();
    private final Row paintedTreadling = new Row();

    public ShaftLoom() {
        painting.stretch(1, 1);
    }

    public int run(boolean warp, int from, int to) throws IllegalArgumentException, IllegalStateException {
        if (!isKind(from) || !isKind(to)) {
            throw new IllegalArgumentException("no such shaft or treadle");
        }
        int steps = Math.abs(to - from);
        requireRoom(warp, steps + 1);
        Row row = rowOf(warp);
        int step = from <= to ? 1 : -1;
        for (int i = 0; i <= steps; i++) {
            row.append(from + i * step);
        }
        return row.size;
    }

    public int again(boolean warp, int m, int n, boolean turned)
            throws IllegalArgumentException, IllegalStateException {
        Row row = rowOf(warp);
        if (m < 1 || m > row.size) {
            throw new IllegalArgumentException("there are not that many to append again");
        }
        if (!turned && n < 0) {
            throw new IllegalArgumentException("times below 0");
        }
        // long, since m times n may be beyond an int
        long more = turned ? m - 1 : (long) m * n;
        requireRoom(warp, more);
        if (turned) {
            row.appendTurned(m);
        } else {
            row.appendRepeated(m, (int) more);
        }
        return row.size;
    }

    public int clear(boolean warp) throws IllegalStateException {
        if (warp && cloth.picks > 0) {
            throw new IllegalStateException("something is woven");
        }
        Row row = rowOf(warp);
        row.size = warp ? 0 : cloth.picks;
        return row.size;
    }

    public boolean tie(int shaft, int treadle, boolean on) throws IllegalArgumentException {
        if (!isKind(shaft) || !isKind(treadle)) {
            throw new IllegalArgumentException("no such shaft or treadle");
        }
        boolean was = isTied(shaft, treadle);
        ties[shaft] = withBit(ties[shaft], treadle, on);
        return was;
    }

    public int draft(int what, int i, int j) throws IllegalArgumentException {
        switch (what) {
            case 0:
                return threading.kindOrNone(i);
            case 1:
                return treadling.kindOrNone(i);
            case 2:
                return tiedOrNone(i, j);
            case 3:
                return threading.size;
            case 4:
                return treadling.size;
            case 5:
                return cloth.picks;
            default:
                throw new IllegalArgumentException("what is not 0 to 5");
        }
    }

    public int colour(boolean warp, int i, int c) throws IllegalArgumentException {
        if (i < 0 || i >= MOST) {
            throw new IllegalArgumentException("no such end or pick");
        }
        if (c < 0 || c >= COLOURS) {
            throw new IllegalArgumentException("no such colour");
        }
        int[] colours = warp ? endColours : pickColours;
        int was = colours[i];
        colours[i] = c;
        return was;
    }

    public int weave(int n) throws IllegalArgumentException, IllegalStateException {
        if (n < 0) {
            throw new IllegalArgumentException("picks below 0");
        }
        if (threading.size == 0) {
            throw new IllegalStateException("there are no ends");
        }
        int thrown = Math.min(n, treadling.size - cloth.picks);
        cloth.ends = threading.size;
        for (int i = 0; i < thrown; i++) {
            cloth.throwPick(endsRaisedBy(treadling.kinds[cloth.picks]));
        }
        return thrown;
    }

    public void unweave(int n) throws IllegalArgumentException {
        if (n < 0 || n > cloth.picks) {
            throw new IllegalArgumentException("not that many picks are woven");
        }
        cloth.picks -= n;
    }

    public int over(int end, int pick) throws IndexOutOfBoundsException {
        if (!cloth.has(end, pick)) {
            throw new IndexOutOfBoundsException("no such crossing");
        }
        return cloth.isOver(end, pick) ? 1 : 0;
    }

    public int seen(int end, int pick, boolean back) throws IndexOutOfBoundsException {
        if (!cloth.has(end, pick)) {
            throw new IndexOutOfBoundsException("no such crossing");
        }
        boolean endIsSeen = cloth.isOver(end, pick) != back;
        return endIsSeen ? endColours[end] : pickColours[pick];
    }

    public int longest(int thread, boolean back) throws IndexOutOfBoundsException {
        if (!isThread(thread)) {
            throw new IndexOutOfBoundsException("no such thread");
        }
        // lines are written from the ends' side: a pick is seen on the front where its line has no bit
        if (isPick(thread)) {
            return longestStretch(cloth.line(true, thread - FIRST_PICK), cloth.ends, back);
        }
        return longestStretch(cloth.line(false, thread), cloth.picks, !back);
    }

    public int layers() throws IllegalStateException {
        requireCloth();
        return pile.sort(cloth);
    }

    public int layer(int thread) throws IllegalStateException, IndexOutOfBoundsException {
        requireCloth();
        if (!isThread(thread)) {
            throw new IndexOutOfBoundsException("no such thread");
        }
        pile.sort(cloth);
        return pile.numbers[isPick(thread) ? cloth.ends + thread - FIRST_PICK : thread];
    }

    public int period(boolean along) throws IllegalStateException {
        requireCloth();
        return cloth.leastShift(along);
    }

    public void picture(int w, int h) throws IllegalArgumentException {
        if (w < 1 || w > MOST || h < 1 || h > MOST) {
            throw new IllegalArgumentException("a picture has 1 to 30 ends and picks");
        }
        painting.stretch(w, h);
    }

    public boolean paint(int end, int pick, boolean on) throws IndexOutOfBoundsException {
        if (!painting.has(end, pick)) {
            throw new IndexOutOfBoundsException("no such crossing");
        }
        boolean was = painting.isOver(end, pick);
        painting.put(end, pick, on);
        return was;
    }

    public int factor(boolean adopt) throws IllegalStateException {
        int shafts = paintedThreading.numberLines(painting, false);
        int treadles = paintedTreadling.numberLines(painting, true);
        if (adopt && (shafts > KINDS || treadles > KINDS)) {
            throw new IllegalStateException("more than 12 shafts or treadles");
        }
        if (adopt) {
            adoptPaintedDraft();
        }
        return 100 * shafts + treadles;
    }

    private static boolean isKind(int number) {
        return number >= 0 && number < KINDS;
    }

    private static int withBit(int bits, int place, boolean on) {
        return on ? bits | 1 << place : bits & ~(1 << place);
    }

    private static boolean isPick(int thread) {
        return thread >= FIRST_PICK;
    }

    private boolean isThread(int thread) {
        return isPick(thread) ? thread - FIRST_PICK < cloth.picks : thread >= 0 && thread < threading.size;
    }

    private Row rowOf(boolean warp) {
        return warp ? threading : treadling;
    }

    private boolean isTied(int shaft, int treadle) {
        return (ties[shaft] >> treadle & 1) == 1;
    }

    private int tiedOrNone(int shaft, int treadle) {
        if (!isKind(shaft) || !isKind(treadle)) {
            return NONE;
        }
        return isTied(shaft, treadle) ? 1 : 0;
    }

    private void requireRoom(boolean warp, long more) {
        if (warp && cloth.picks > 0) {
            throw new IllegalStateException("something is woven");
        }
        if (more > MOST - rowOf(warp).size) {
            throw new IllegalStateException("more than 30");
        }
    }

    private void requireCloth() {
        if (cloth.picks == 0) {
            throw new IllegalStateException("nothing is woven");
        }
    }

    private int endsRaisedBy(int treadle) {
        int raised = 0;
        for (int end = 0; end < threading.size; end++) {
            raised = withBit(raised, end, isTied(threading.kinds[end], treadle));
        }
        return raised;
    }

    /** The longest stretch of neighbouring bits, of the lowest so many, that are all set or all not set. */
    private static int longestStretch(int bits, int count, boolean set) {
        int wanted = set ? 1 : 0;
        int best = 0;
        int length = 0;
        for (int i = 0; i < count; i++) {
            length = (bits >> i & 1) == wanted ? length + 1 : 0;
            best = Math.max(best, length);
        }
        return best;
    }

    private void adoptPaintedDraft() {
        threading.copyFrom(paintedThreading);
        treadling.copyFrom(paintedTreadling);
        Arrays.fill(ties, 0);
        for (int pick = 0; pick < painting.picks; pick++) {
            for (int end = 0; end < painting.ends; end++) {
                int shaft = threading.kinds[end];
                ties[shaft] = withBit(ties[shaft], treadling.kinds[pick], painting.isOver(end, pick));
            }
        }
        cloth.picks = 0;
    }

    /** A threading or a treadling. */
    private static final class Row {
        private final int[] kinds = new int[MOST];
        private int size;

        private int kindOrNone(int i) {
            return i >= 0 && i < size ? kinds[i] : NONE;
        }

        private void append(int kind) {
            if (size < MOST) {
                kinds[size] = kind;
                size++;
            }
        }

        /** Each one appended is the one that then stands m before it, so that the last m come round. */
        private void appendRepeated(int m, int more) {
            for (int i = 0; i < more; i++) {
                append(kinds[size - m]);
            }
        }

        private void appendTurned(int m) {
            int last = size - 1;
            for (int back = 1; back < m; back++) {
                append(kinds[last - back]);
            }
        }

        private void copyFrom(Row other) {
            System.arraycopy(other.kinds, 0, kinds, 0, other.size);
            size = other.size;
        }

        /** Numbers the ends or picks, those with the same crossings alike: how many numbers it takes. */
        private int numberLines(Crossings crossings, boolean ofPicks) {
            size = crossings.count(ofPicks);
            int used = 0;
            for (int i = 0; i < size; i++) {
                int first = crossings.firstLike(ofPicks, i);
                if (first < i) {
                    kinds[i] = kinds[first];
                } else {
                    kinds[i] = used;
                    used++;
                }
            }
            return used;
        }
    }

    /** The crossings of a cloth or of a picture. */
    private static final class Crossings {
        /** For each pick one bit for each end that is over it. */
        private final int[] endsOver = new int[MOST];
        private int ends;
        private int picks;

        private void stretch(int width, int height) {
            ends = width;
            picks = height;
            Arrays.fill(endsOver, 0);
        }

        private void throwPick(int raised) {
            if (picks < MOST) {
                endsOver[picks] = raised;
                picks++;
            }
        }

        private boolean has(int end, int pick) {
            return end >= 0 && end < ends && pick >= 0 && pick < picks;
        }

        private boolean isOver(int end, int pick) {
            return (endsOver[pick] >> end & 1) == 1;
        }

        private void put(int end, int pick, boolean on) {
            endsOver[pick] = withBit(endsOver[pick], end, on);
        }

        private int count(boolean ofPicks) {
            return ofPicks ? picks : ends;
        }

        /** All crossings of one pick or end, a bit each, set where the end is over. */
        private int line(boolean ofPick, int i) {
            return ofPick ? endsOver[i] : picksUnder(i);
        }

        private int picksUnder(int end) {
            int under = 0;
            for (int pick = 0; pick < picks; pick++) {
                under = withBit(under, pick, isOver(end, pick));
            }
            return under;
        }

        private int firstLike(boolean ofPicks, int i) {
            int wanted = line(ofPicks, i);
            for (int first = 0; first < i; first++) {
                if (line(ofPicks, first) == wanted) {
                    return first;
                }
            }
            return i;
        }

        private int leastShift(boolean ofPicks) {
            int all = count(ofPicks);
            for (int shift = 1; shift < all; shift++) {
                if (repeatsAfter(ofPicks, shift)) {
                    return shift;
                }
            }
            return all;
        }

        private boolean repeatsAfter(boolean ofPicks, int shift) {
            int all = count(ofPicks);
            for (int i = 0; i + shift < all; i++) {
                if (line(ofPicks, i) != line(ofPicks, i + shift)) {
                    return false;
                }
            }
            return true;
        }
    }

    /** The threads of a cloth, sorted into layers. Here picks are counted on behind the last end. */
    private static final class Pile {
        /** For each thread one bit for each that it lies over, directly or by others, and for itself. */
        private final long[] below = new long[2 * MOST];
        private final int[] numbers = new int[2 * MOST];
        private int threads;

        private int sort(Crossings cloth) {
            threads = cloth.ends + cloth.picks;
            layDirectly(cloth);
            followOthers();
            return numberFromBottom();
        }

        private void layDirectly(Crossings cloth) {
            long allEnds = (1L << cloth.ends) - 1;
            for (int end = 0; end < cloth.ends; end++) {
                below[end] = 1L << end | (long) cloth.line(false, end) << cloth.ends;
            }
            for (int pick = 0; pick < cloth.picks; pick++) {
                int place = cloth.ends + pick;
                below[place] = 1L << place | allEnds & ~cloth.line(true, pick);
            }
        }

        private void followOthers() {
            // the one in between must be the outer loop, or chains of several would be missed
            for (int between = 0; between < threads; between++) {
                for (int i = 0; i < threads; i++) {
                    if (holds(below[i], between)) {
                        below[i] |= below[between];
                    }
                }
            }
        }

        private int numberFromBottom() {
            long left = (1L << threads) - 1;
            int count = 0;
            while (left != 0 && count < threads) {
                long next = below[lowestFree(left)] & left;
                for (int i = 0; i < threads; i++) {
                    if (holds(next, i)) {
                        numbers[i] = count;
                    }
                }
                left &= ~next;
                count++;
            }
            return count;
        }

        private int lowestFree(long left) {
            for (int i = 0; i < threads; i++) {
                if (holds(left, i) && isFree(i, left)) {
                    return i;
                }
            }
            // never reached while a thread is left: layers cannot lie over one another in a ring
            return 0;
        }

        /** Whether all that are left below a thread lie over it too, and so are of its own layer. */
        private boolean isFree(int thread, long left) {
            long leftBelow = below[thread] & left;
            for (int i = 0; i < threads; i++) {
                if (holds(leftBelow, i) && !holds(below[i], thread)) {
                    return false;
                }
            }
            return true;
        }

        private static boolean holds(long set, int thread) {
            return (set >>> thread & 1) == 1;
        }
    }
}
