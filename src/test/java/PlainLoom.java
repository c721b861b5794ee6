import java.util.ArrayList;
import java.util.List;
import java.util.TreeSet;

/** The document's words followed one by one, slowly and without tricks, to compare ShaftLoom with. */
final class PlainLoom {
    private final List<Integer> threading = new ArrayList<>();
    private final List<Integer> treadling = new ArrayList<>();
    private final TreeSet<String> ties = new TreeSet<>();
    private final int[] endColours = new int[30];
    private final int[] pickColours = new int[30];
    /** Each woven pick as a text with # for each end that is over it. */
    private final List<String> woven = new ArrayList<>();
    private int width = 1;
    private int height = 1;
    private TreeSet<String> painted = new TreeSet<>();

    private static String pair(int a, int b) {
        return a + "/" + b;
    }

    private static void argument(boolean fine) {
        if (!fine) {
            throw new IllegalArgumentException();
        }
    }

    private static void state(boolean fine) {
        if (!fine) {
            throw new IllegalStateException();
        }
    }

    private static void index(boolean fine) {
        if (!fine) {
            throw new IndexOutOfBoundsException();
        }
    }

    private static boolean within(int i, int least, int most) {
        return least <= i && i <= most;
    }

    private int append(boolean warp, List<Integer> more) {
        List<Integer> row = warp ? threading : treadling;
        state(row.size() + more.size() <= 30 && !(warp && woven.size() > 0));
        row.addAll(more);
        return row.size();
    }

    int run(boolean warp, int from, int to) {
        argument(within(from, 0, 11) && within(to, 0, 11));
        List<Integer> more = new ArrayList<>();
        int at = from;
        more.add(at);
        while (at != to) {
            at += at < to ? 1 : -1;
            more.add(at);
        }
        return append(warp, more);
    }

    int again(boolean warp, int m, int n, boolean turned) {
        List<Integer> row = warp ? threading : treadling;
        argument(within(m, 1, row.size()) && (turned || n >= 0));
        List<Integer> last = row.subList(row.size() - m, row.size());
        List<Integer> more = new ArrayList<>();
        if (turned) {
            for (int i = m - 2; i >= 0; i--) {
                more.add(last.get(i));
            }
        } else {
            for (int time = 0; time < n && more.size() <= 30; time++) {
                more.addAll(last);
            }
        }
        return append(warp, more);
    }

    int clear(boolean warp) {
        state(!warp || woven.isEmpty());
        List<Integer> row = warp ? threading : treadling;
        while (row.size() > (warp ? 0 : woven.size())) {
            row.remove(row.size() - 1);
        }
        return row.size();
    }

    boolean tie(int shaft, int treadle, boolean on) {
        argument(within(shaft, 0, 11) && within(treadle, 0, 11));
        return on ? !ties.add(pair(shaft, treadle)) : ties.remove(pair(shaft, treadle));
    }

    int draft(int what, int i, int j) {
        argument(within(what, 0, 5));
        int[] counts = {threading.size(), treadling.size(), woven.size()};
        if (what >= 3) {
            return counts[what - 3];
        }
        if (what == 2) {
            boolean there = within(i, 0, 11) && within(j, 0, 11);
            return !there ? ShaftLoom.NONE : ties.contains(pair(i, j)) ? 1 : 0;
        }
        List<Integer> row = what == 0 ? threading : treadling;
        return within(i, 0, row.size() - 1) ? row.get(i) : ShaftLoom.NONE;
    }

    int colour(boolean warp, int i, int c) {
        argument(within(i, 0, 29) && within(c, 0, 9));
        int[] colours = warp ? endColours : pickColours;
        int was = colours[i];
        colours[i] = c;
        return was;
    }

    int weave(int n) {
        argument(n >= 0);
        state(!threading.isEmpty());
        int thrown = 0;
        while (thrown < n && woven.size() < treadling.size()) {
            StringBuilder pick = new StringBuilder();
            for (int shaft : threading) {
                pick.append(ties.contains(pair(shaft, treadling.get(woven.size()))) ? '#' : '.');
            }
            woven.add(pick.toString());
            thrown++;
        }
        return thrown;
    }

    int unweave(int n) {
        argument(within(n, 0, woven.size()));
        for (int i = 0; i < n; i++) {
            woven.remove(woven.size() - 1);
        }
        return 0;
    }

    int over(int end, int pick) {
        index(within(end, 0, threading.size() - 1) && within(pick, 0, woven.size() - 1));
        return woven.get(pick).charAt(end) == '#' ? 1 : 0;
    }

    int seen(int end, int pick, boolean back) {
        boolean endOver = over(end, pick) == 1;
        if (back) {
            return endOver ? pickColours[pick] : endColours[end];
        }
        return endOver ? endColours[end] : pickColours[pick];
    }

    private List<Integer> threads() {
        List<Integer> all = new ArrayList<>();
        for (int end = 0; end < threading.size(); end++) {
            all.add(end);
        }
        for (int pick = 0; pick < woven.size(); pick++) {
            all.add(100 + pick);
        }
        return all;
    }

    private String endText(int end) {
        StringBuilder text = new StringBuilder();
        for (String pick : woven) {
            text.append(pick.charAt(end));
        }
        return text.toString();
    }

    int longest(int thread, boolean back) {
        index(threads().contains(thread));
        String text = thread >= 100 ? woven.get(thread - 100) : endText(thread);
        char shown = thread >= 100 ? (back ? '#' : '.') : (back ? '.' : '#');
        int best = 0;
        for (int from = 0; from < text.length(); from++) {
            int to = from;
            while (to < text.length() && text.charAt(to) == shown) {
                to++;
            }
            best = Math.max(best, to - from);
        }
        return best;
    }

    private boolean liesOver(int a, int b) {
        if (a < 100 && b >= 100) {
            return over(a, b - 100) == 1;
        }
        return a >= 100 && b < 100 && over(b, a - 100) == 0;
    }

    private void reach(int from, List<Integer> all, TreeSet<Integer> found) {
        if (found.add(from)) {
            for (int next : all) {
                if (liesOver(from, next)) {
                    reach(next, all, found);
                }
            }
        }
    }

    /** The layers from the bottom, each with its threads. */
    private List<TreeSet<Integer>> piled() {
        List<Integer> all = threads();
        List<TreeSet<Integer>> reached = new ArrayList<>();
        for (int thread : all) {
            TreeSet<Integer> found = new TreeSet<>();
            reach(thread, all, found);
            reached.add(found);
        }
        List<TreeSet<Integer>> left = new ArrayList<>();
        for (int i = 0; i < all.size(); i++) {
            TreeSet<Integer> with = new TreeSet<>();
            for (int j = 0; j < all.size(); j++) {
                if (reached.get(i).contains(all.get(j)) && reached.get(j).contains(all.get(i))) {
                    with.add(all.get(j));
                }
            }
            // as each layer is found first by its lowest thread, they stand in that order
            if (with.first().equals(all.get(i))) {
                left.add(with);
            }
        }
        List<TreeSet<Integer>> sorted = new ArrayList<>();
        while (!left.isEmpty()) {
            int next = 0;
            while (!isFree(left.get(next), left)) {
                next++;
            }
            sorted.add(left.remove(next));
        }
        return sorted;
    }

    private boolean isFree(TreeSet<Integer> layer, List<TreeSet<Integer>> left) {
        for (TreeSet<Integer> other : left) {
            for (int a : layer) {
                for (int b : other) {
                    if (other != layer && liesOver(a, b)) {
                        return false;
                    }
                }
            }
        }
        return true;
    }

    int layers() {
        state(!woven.isEmpty());
        return piled().size();
    }

    int layer(int thread) {
        state(!woven.isEmpty());
        index(threads().contains(thread));
        List<TreeSet<Integer>> sorted = piled();
        int number = 0;
        while (!sorted.get(number).contains(thread)) {
            number++;
        }
        return number;
    }

    int period(boolean along) {
        state(!woven.isEmpty());
        List<String> lines = new ArrayList<>(woven);
        if (!along) {
            lines.clear();
            for (int end = 0; end < threading.size(); end++) {
                lines.add(endText(end));
            }
        }
        int k = 1;
        while (!lines.subList(k, lines.size()).equals(lines.subList(0, lines.size() - k))) {
            k++;
        }
        return k;
    }

    int picture(int w, int h) {
        argument(within(w, 1, 30) && within(h, 1, 30));
        width = w;
        height = h;
        painted = new TreeSet<>();
        return 0;
    }

    boolean paint(int end, int pick, boolean on) {
        index(within(end, 0, width - 1) && within(pick, 0, height - 1));
        return on ? !painted.add(pair(end, pick)) : painted.remove(pair(end, pick));
    }

    private List<Integer> numbered(List<String> lines) {
        List<String> kinds = new ArrayList<>();
        List<Integer> row = new ArrayList<>();
        for (String line : lines) {
            if (!kinds.contains(line)) {
                kinds.add(line);
            }
            row.add(kinds.indexOf(line));
        }
        return row;
    }

    private List<String> paintedLines(boolean ofPicks) {
        List<String> lines = new ArrayList<>();
        for (int i = 0; i < (ofPicks ? height : width); i++) {
            StringBuilder line = new StringBuilder();
            for (int j = 0; j < (ofPicks ? width : height); j++) {
                line.append(painted.contains(ofPicks ? pair(j, i) : pair(i, j)) ? '#' : '.');
            }
            lines.add(line.toString());
        }
        return lines;
    }

    int factor(boolean adopt) {
        List<Integer> shafts = numbered(paintedLines(false));
        List<Integer> treadles = numbered(paintedLines(true));
        int shaftCount = new TreeSet<>(shafts).size();
        int treadleCount = new TreeSet<>(treadles).size();
        if (adopt) {
            state(shaftCount <= 12 && treadleCount <= 12);
            threading.clear();
            threading.addAll(shafts);
            treadling.clear();
            treadling.addAll(treadles);
            woven.clear();
            ties.clear();
            for (int end = 0; end < width; end++) {
                for (int pick = 0; pick < height; pick++) {
                    if (painted.contains(pair(end, pick))) {
                        ties.add(pair(shafts.get(end), treadles.get(pick)));
                    }
                }
            }
        }
        return shaftCount * 100 + treadleCount;
    }
}
