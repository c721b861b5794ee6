import java.util.Random;

/** Many runs of calls drawn by lot (always the same ones), on ShaftLoom and on PlainLoom side by side. */
public final class PlainLoomTest {
    private static final int RUNS = 1500;
    private static final int CALLS = 512;
    private static final int[] EDGES = {Integer.MIN_VALUE, -1, 0, 11, 12, 29, 30, 31, 99, 100, Integer.MAX_VALUE};

    private interface Answer {
        long give();
    }

    private final Checks checks = new Checks("PlainLoomTest");
    private Random lot;
    private ShaftLoom loom;
    private PlainLoom plain;
    private String call;

    public static void main(String[] args) {
        PlainLoomTest test = new PlainLoomTest();
        for (int run = 0; run < RUNS; run++) {
            test.compareRun(run);
        }
        test.checks.end();
    }

    private void compareRun(int run) {
        lot = new Random(run);
        loom = new ShaftLoom();
        plain = new PlainLoom();
        // some runs tie and paint densely, some hardly, so that layers and like ends come about
        int density = lot.nextInt(11);
        for (int i = 0; i < CALLS; i++) {
            String before = "run " + run + ", call " + i + ": ";
            long[] both = lot.nextInt(4) == 0 ? askedOfCloth() : changed(density);
            checks.due(before + call, both[0], both[1]);
        }
    }

    private boolean flip() {
        return lot.nextBoolean();
    }

    // what is there is asked of the plain loom, since each call of the other one counts to its 512

    /** A number from 0 on, mostly below a bound, now and then at it or far off. */
    private int number(int bound) {
        int draw = lot.nextInt(40);
        if (draw == 0) {
            return EDGES[lot.nextInt(EDGES.length)];
        }
        return draw == 1 ? bound : lot.nextInt(Math.max(1, bound));
    }

    private int thread() {
        int ends = Math.max(1, plain.draft(3, 0, 0));
        int picks = Math.max(1, plain.draft(5, 0, 0));
        return flip() ? number(ends) : 100 + number(picks);
    }

    private long[] changed(int density) {
        boolean warp = flip();
        boolean on = lot.nextInt(10) < density;
        switch (lot.nextInt(12)) {
            case 0: {
                int from = number(12);
                int to = number(12);
                call = "run(" + warp + ", " + from + ", " + to + ")";
                return both(() -> loom.run(warp, from, to), () -> plain.run(warp, from, to));
            }
            case 1: {
                int m = 1 + number(Math.max(1, plain.draft(warp ? 3 : 4, 0, 0)));
                int n = number(4) - (lot.nextInt(30) == 0 ? 1 : 0);
                boolean turned = flip();
                call = "again(" + warp + ", " + m + ", " + n + ", " + turned + ")";
                return both(() -> loom.again(warp, m, n, turned), () -> plain.again(warp, m, n, turned));
            }
            case 2: {
                boolean seldomWarp = lot.nextInt(3) == 0;
                call = "clear(" + seldomWarp + ")";
                return both(() -> loom.clear(seldomWarp), () -> plain.clear(seldomWarp));
            }
            case 3:
            case 4: {
                int shaft = number(12);
                int treadle = number(12);
                call = "tie(" + shaft + ", " + treadle + ", " + on + ")";
                return both(() -> bit(loom.tie(shaft, treadle, on)), () -> bit(plain.tie(shaft, treadle, on)));
            }
            case 5: {
                int i = number(30);
                int c = number(10);
                call = "colour(" + warp + ", " + i + ", " + c + ")";
                return both(() -> loom.colour(warp, i, c), () -> plain.colour(warp, i, c));
            }
            case 6:
            case 7: {
                int n = number(12);
                call = "weave(" + n + ")";
                return both(() -> loom.weave(n), () -> plain.weave(n));
            }
            case 8: {
                int n = flip() ? plain.draft(5, 0, 0) : number(6);
                call = "unweave(" + n + ")";
                return both(() -> unwoven(n), () -> plain.unweave(n));
            }
            default:
                return changedPicture(on);
        }
    }

    private long[] changedPicture(boolean on) {
        int draw = lot.nextInt(20);
        if (draw == 0) {
            int w = 1 + number(lot.nextInt(3) == 0 ? 30 : 6);
            int h = 1 + number(lot.nextInt(3) == 0 ? 30 : 6);
            call = "picture(" + w + ", " + h + ")";
            return both(() -> pictured(w, h), () -> plain.picture(w, h));
        }
        if (draw <= 2) {
            boolean adopt = flip();
            call = "factor(" + adopt + ")";
            return both(() -> loom.factor(adopt), () -> plain.factor(adopt));
        }
        int end = number(6);
        int pick = number(6);
        call = "paint(" + end + ", " + pick + ", " + on + ")";
        return both(() -> bit(loom.paint(end, pick, on)), () -> bit(plain.paint(end, pick, on)));
    }

    private long[] askedOfCloth() {
        int end = number(plain.draft(3, 0, 0));
        int pick = number(plain.draft(5, 0, 0));
        int thread = thread();
        boolean back = flip();
        switch (lot.nextInt(7)) {
            case 0: {
                int what = lot.nextInt(8) - 1;
                int i = number(20);
                int j = number(12);
                call = "draft(" + what + ", " + i + ", " + j + ")";
                return both(() -> loom.draft(what, i, j), () -> plain.draft(what, i, j));
            }
            case 1:
                call = "over(" + end + ", " + pick + ")";
                return both(() -> loom.over(end, pick), () -> plain.over(end, pick));
            case 2:
                call = "seen(" + end + ", " + pick + ", " + back + ")";
                return both(() -> loom.seen(end, pick, back), () -> plain.seen(end, pick, back));
            case 3:
                call = "longest(" + thread + ", " + back + ")";
                return both(() -> loom.longest(thread, back), () -> plain.longest(thread, back));
            case 4:
                call = "layers()";
                return both(() -> loom.layers(), () -> plain.layers());
            case 5:
                call = "layer(" + thread + ")";
                return both(() -> loom.layer(thread), () -> plain.layer(thread));
            default:
                call = "period(" + back + ")";
                return both(() -> loom.period(back), () -> plain.period(back));
        }
    }

    private static long bit(boolean on) {
        return on ? 1 : 0;
    }

    private long unwoven(int n) {
        loom.unweave(n);
        return 0;
    }

    private long pictured(int w, int h) {
        loom.picture(w, h);
        return 0;
    }

    private static long[] both(Answer first, Answer second) {
        return new long[] {answerOrException(first), answerOrException(second)};
    }

    /** Exceptions as numbers far from every answer: -1001 argument, -1002 state, -1003 index, -1009 others. */
    private static long answerOrException(Answer answer) {
        try {
            return answer.give();
        } catch (RuntimeException e) {
            switch (e.getClass().getSimpleName()) {
                case "IllegalArgumentException":
                    return -1001;
                case "IllegalStateException":
                    return -1002;
                case "IndexOutOfBoundsException":
                    return -1003;
                default:
                    return -1009;
            }
        }
    }
}
