import java.util.ArrayList;
import java.util.HashMap;
import java.util.HashSet;
import java.util.List;
import java.util.Map;
import java.util.Set;
import java.util.TreeSet;

/**
 * The document once more, as slowly and as straightly as it can be written: RandomRunsTest asks both
 * this and OneThread. Nothing is kept that could be worked out anew, and nothing is shared with the
 * program.
 */
final class PlainThread {
    static final int NONE = -1;

    /** All that an image holds. */
    private static final class World {
        int s = 4;
        List<int[]> pins = new ArrayList<>();
        int[][][] want = new int[4][8][8];
        int[][] weight = new int[8][8];
        int[] shade = {1, 2, 3};
        List<List<Integer>> rows = new ArrayList<>();
        String law = "";
        List<Set<Integer>> set = new ArrayList<>();
        int[][] told = new int[8][8];

        World(int s) {
            this.s = s;
            for (int x = 0; x < 8; x++) {
                for (int y = 0; y < 8; y++) {
                    weight[x][y] = 1;
                    told[x][y] = NONE;
                }
            }
            for (int t = 0; t < 3; t++) {
                rows.add(new ArrayList<>());
            }
        }

        World copy() {
            World w = new World(s);
            w.pins = new ArrayList<>(pins);
            for (int x = 0; x < 8; x++) {
                w.weight[x] = weight[x].clone();
                w.told[x] = told[x].clone();
                for (int p = 0; p < 4; p++) {
                    w.want[p][x] = want[p][x].clone();
                }
            }
            w.shade = shade.clone();
            for (int t = 0; t < 3; t++) {
                w.rows.set(t, new ArrayList<>(rows.get(t)));
            }
            w.law = law;
            w.set = new ArrayList<>(set);
            return w;
        }
    }

    private World w = new World(4);
    private World taken;
    private final StringBuilder tape = new StringBuilder();
    private int[] fault = {0, NONE};
    private final List<Integer> undo = new ArrayList<>();

    boolean board(int s) {
        if (s < 2 || s > 8) return false;
        w = new World(s);
        undo.clear();
        return true;
    }

    int pin(int x, int y) {
        if (x < 0 || y < 0 || x > w.s || y > w.s || w.pins.size() == 24) return NONE;
        for (int[] p : w.pins) if (p[0] == x && p[1] == y) return NONE;
        w.pins.add(new int[] {x, y});
        undo.clear();
        return w.pins.size() - 1;
    }

    private boolean square(int x, int y) {
        return x >= 0 && y >= 0 && x < w.s && y < w.s;
    }

    private static boolean in(int v, int low, int high) {
        return v >= low && v <= high;
    }

    private boolean isPin(int p) {
        return in(p, 0, w.pins.size() - 1);
    }

    boolean want(int picture, int x, int y, int v) {
        if (!in(picture, 0, 3) || !square(x, y) || !in(v, 0, 999)) return false;
        w.want[picture][x][y] = v;
        return true;
    }

    boolean weight(int x, int y, int v) {
        if (!square(x, y) || !in(v, 0, 9)) return false;
        w.weight[x][y] = v;
        return true;
    }

    boolean shade(int t, int v) {
        if (!in(t, 0, 2) || !in(v, 0, 9)) return false;
        w.shade[t] = v;
        undo.clear();
        return true;
    }

    private static int last(List<Integer> row) {
        return row.isEmpty() ? NONE : row.get(row.size() - 1);
    }

    int winding(int t, int p) {
        if (!in(t, 0, 2) || !isPin(p)) return NONE;
        List<Integer> row = w.rows.get(t);
        if (row.size() == 120 || last(row) == p) return NONE;
        if (!may(w, t, p)) return -2;
        row.add(p);
        undo.add(t);
        if (undo.size() > 40) undo.remove(0);
        return row.size();
    }

    int rub(int t, int n) {
        if (!in(t, 0, 2) || !in(n, 0, w.rows.get(t).size())) return NONE;
        List<Integer> row = w.rows.get(t);
        for (int i = 0; i < n; i++) row.remove(row.size() - 1);
        undo.clear();
        return row.size();
    }

    int feed(int... five) {
        if (tape.length() > 380) return NONE;
        for (int v : five) {
            tape.append((char) (v >> 24 & 255)).append((char) (v >> 16 & 255));
            tape.append((char) (v >> 8 & 255)).append((char) (v & 255));
        }
        return tape.length();
    }

    boolean end(int n) {
        if (!in(n, 0, tape.length())) return false;
        tape.setLength(n);
        return true;
    }

    int text() {
        String text = tape.toString();
        tape.setLength(0);
        fault = PlainLaw.fault(text);
        if (fault[0] != 0) return NONE;
        w.law = text;
        return PlainLaw.lines(text);
    }

    int fault(int what) {
        return in(what, 0, 1) ? fault[what] : NONE;
    }

    int wound(int t, int i) {
        if (!in(t, 0, 2)) return NONE;
        List<Integer> row = w.rows.get(t);
        if (i == NONE) return row.size();
        return in(i, 0, row.size() - 1) ? row.get(i) : NONE;
    }

    private static int length(World v, int a, int b) {
        int[] p = v.pins.get(a);
        int[] q = v.pins.get(b);
        return Math.max(Math.abs(p[0] - q[0]), Math.abs(p[1] - q[1]));
    }

    private static int samples(World v, int a, int b, int x, int y) {
        int[] p = v.pins.get(Math.min(a, b));
        int[] q = v.pins.get(Math.max(a, b));
        int n = 8 * length(v, a, b);
        int many = 0;
        for (int i = 0; i < n; i++) {
            // doubles are exact enough: a middle that is on an edge is so by whole 16 n-ths
            double part = (2 * i + 1) / (2.0 * n);
            int mx = (int) Math.floor(p[0] + (q[0] - p[0]) * part + 1e-9);
            int my = (int) Math.floor(p[1] + (q[1] - p[1]) * part + 1e-9);
            if (Math.min(mx, v.s - 1) == x && Math.min(my, v.s - 1) == y) many++;
        }
        return many;
    }

    private static int dark(World v, int x, int y) {
        int sum = 0;
        for (int t = 0; t < 3; t++) {
            List<Integer> row = v.rows.get(t);
            for (int i = 1; i < row.size(); i++) sum += v.shade[t] * samples(v, row.get(i - 1), row.get(i), x, y);
        }
        return sum;
    }

    int dark(int x, int y) {
        return square(x, y) ? dark(w, x, y) : NONE;
    }

    int samples(int a, int b, int x, int y) {
        if (!isPin(a) || !isPin(b) || a == b || !square(x, y)) return NONE;
        return samples(w, a, b, x, y);
    }

    private static int[][] darks(World v) {
        int[][] dark = new int[8][8];
        for (int x = 0; x < v.s; x++) for (int y = 0; y < v.s; y++) dark[x][y] = dark(v, x, y);
        return dark;
    }

    /** FAR, with one line more (by a shade, which may be below 0). */
    private static int far(World v, int[][] dark, int picture, int a, int b, int shade) {
        int sum = 0;
        for (int x = 0; x < v.s; x++) {
            for (int y = 0; y < v.s; y++) {
                int d = dark[x][y] + (shade == 0 ? 0 : shade * samples(v, a, b, x, y));
                sum += v.weight[x][y] * Math.abs(v.want[picture][x][y] - d);
            }
        }
        return sum;
    }

    int far(int picture) {
        return in(picture, 0, 3) ? far(w, darks(w), picture, 0, 0, 0) : NONE;
    }

    private static boolean may(World v, int t, int p) {
        List<Integer> row = v.rows.get(t);
        if (last(row) == p || row.size() == 120) return false;
        if (row.isEmpty()) return true;
        int from = last(row);
        int used = 0;
        for (List<Integer> r : v.rows) {
            for (int i = 1; i < r.size(); i++) {
                if (Set.of(r.get(i - 1), r.get(i)).equals(Set.of(from, p))) used++;
            }
        }
        Map<String, Integer> facts = new HashMap<>();
        facts.put("from", from);
        facts.put("to", p);
        facts.put("length", length(v, from, p));
        facts.put("used", used);
        facts.put("thread", t);
        facts.put("wound", row.size());
        facts.put("turn", row.size() > 1 && row.get(row.size() - 2) == p ? 1 : 0);
        facts.put("shade", v.shade[t]);
        return PlainLaw.allows(v.law, facts);
    }

    /** NEXT and GAIN. */
    private static int[] next(World v, int t, int picture) {
        List<Integer> row = v.rows.get(t);
        int[] best = {NONE, 0};
        if (row.isEmpty()) return best;
        int[][] dark = darks(v);
        int now = far(v, dark, picture, 0, 0, 0);
        for (int p = 0; p < v.pins.size(); p++) {
            if (!may(v, t, p)) continue;
            int gain = now - far(v, dark, picture, last(row), p, v.shade[t]);
            if (best[0] == NONE || gain > best[1]) best = new int[] {p, gain};
        }
        return best;
    }

    int next(int t, int picture, int what) {
        if (!in(t, 0, 2) || !in(picture, 0, 3) || !in(what, 0, 1)) return -1000000;
        return next(w, t, picture)[what];
    }

    int greedy(int t, int picture, int n, int what) {
        if (!in(t, 0, 2) || !in(picture, 0, 3) || !in(n, 1, 40) || !in(what, 0, 2)) return NONE;
        World v = w.copy();
        int often = 0;
        while (often < n) {
            int[] step = next(v, t, picture);
            if (step[1] <= 0) break;
            v.rows.get(t).add(step[0]);
            often++;
        }
        return new int[] {often, far(v, darks(v), picture, 0, 0, 0), last(v.rows.get(t))}[what];
    }

    int worst(int picture, int what) {
        if (!in(picture, 0, 3) || !in(what, 0, 2)) return NONE;
        int[][] dark = darks(w);
        int now = far(w, dark, picture, 0, 0, 0);
        int[] best = {NONE, NONE, NONE};
        for (int t = 0; t < 3; t++) {
            List<Integer> row = w.rows.get(t);
            for (int i = 1; i < row.size(); i++) {
                int less = now - far(w, dark, picture, row.get(i - 1), row.get(i), -w.shade[t]);
                if (less > 0 && less > best[2]) best = new int[] {t, i - 1, less};
            }
        }
        return best[what];
    }

    int line(int a, int b) {
        if (!isPin(a) || !isPin(b) || a == b || w.set.size() == 20 || w.set.contains(Set.of(a, b))) return NONE;
        w.set.add(Set.of(a, b));
        return w.set.size() - 1;
    }

    int clear() {
        int had = w.set.size();
        w.set.clear();
        return had;
    }

    private Map<Integer, Integer> degrees() {
        Map<Integer, Integer> degree = new HashMap<>();
        for (Set<Integer> line : w.set) for (int p : line) degree.merge(p, 1, Integer::sum);
        return degree;
    }

    private List<Set<Integer>> parts() {
        List<Set<Integer>> parts = new ArrayList<>();
        for (Set<Integer> line : w.set) {
            Set<Integer> whole = new HashSet<>(line);
            List<Set<Integer>> rest = new ArrayList<>();
            for (Set<Integer> part : parts) {
                boolean touches = false;
                for (int p : line) touches |= part.contains(p);
                if (touches) whole.addAll(part);
                else rest.add(part);
            }
            rest.add(whole);
            parts = rest;
        }
        return parts;
    }

    private List<Integer> odd() {
        List<Integer> odd = new ArrayList<>();
        Map<Integer, Integer> degree = degrees();
        for (int p : new TreeSet<>(degree.keySet())) if (degree.get(p) % 2 == 1) odd.add(p);
        return odd;
    }

    private int threads() {
        int sum = 0;
        List<Integer> odd = odd();
        for (Set<Integer> part : parts()) {
            int many = 0;
            for (int p : part) if (odd.contains(p)) many++;
            sum += Math.max(1, many / 2);
        }
        return sum;
    }

    /** The least length by which all but so many of these are joined. */
    private int join(List<Integer> left, int spare, int sofar, int best) {
        if (left.isEmpty()) return spare == 0 ? Math.min(best, sofar) : best;
        if (sofar >= best) return best;
        List<Integer> rest = new ArrayList<>(left);
        int p = rest.remove(0);
        if (spare > 0) best = join(rest, spare - 1, sofar, best);
        for (int i = 0; i < rest.size(); i++) {
            List<Integer> fewer = new ArrayList<>(rest);
            int q = fewer.remove(i);
            best = join(fewer, spare, sofar + length(w, p, q), best);
        }
        return best;
    }

    int thread(int what) {
        int threads = threads();
        List<Integer> odd = odd();
        switch (what) {
            case 0: return threads;
            case 1: return threads == 0 ? 0 : threads - 1;
            case 2:
                if (parts().size() != 1 || odd.size() > 12) return NONE;
                return odd.isEmpty() ? 0 : join(odd, 2, 0, 1 << 20);
            case 3: return odd.size();
            case 4: return parts().size();
            default: return NONE;
        }
    }

    private boolean way(List<Integer> row, Set<Set<Integer>> left) {
        if (left.isEmpty()) return true;
        for (int p = 0; p < w.pins.size(); p++) {
            if (p == last(row)) continue;
            Set<Integer> line = Set.of(last(row), p);
            if (!left.remove(line)) continue;
            row.add(p);
            if (way(row, left)) return true;
            row.remove(row.size() - 1);
            left.add(line);
        }
        return false;
    }

    /** Tries all rows by the alphabet. */
    int order(int i) {
        if (threads() != 1) return NONE;
        for (int p = 0; p < w.pins.size(); p++) {
            List<Integer> row = new ArrayList<>(List.of(p));
            if (way(row, new HashSet<>(w.set))) return in(i, 0, row.size() - 1) ? row.get(i) : NONE;
        }
        throw new IllegalStateException("no way through a set that one thread is enough for");
    }

    boolean tell(int x, int y, int v) {
        if (!square(x, y) || !in(v, NONE, 9999)) return false;
        w.told[x][y] = v;
        return true;
    }

    int back(int what) {
        int m = w.set.size();
        if (m > 12 || !in(what, 0, 2)) return -2;
        int[] found = {0, NONE, 0};
        List<int[]> rows = new ArrayList<>();
        for (int x = 0; x < w.s; x++) {
            for (int y = 0; y < w.s; y++) {
                if (w.told[x][y] == NONE) continue;
                int[] row = new int[m + 1];
                for (int i = 0; i < m; i++) {
                    List<Integer> line = new ArrayList<>(w.set.get(i));
                    row[i] = samples(w, line.get(0), line.get(1), x, y);
                }
                row[m] = w.told[x][y];
                rows.add(row);
            }
        }
        for (int chosen = 0; chosen < 1 << m; chosen++) {
            boolean just = true;
            for (int[] row : rows) {
                int sum = 0;
                for (int i = 0; i < m; i++) if ((chosen >> i & 1) == 1) sum += row[i];
                just &= sum == row[m];
            }
            if (!just) continue;
            if (found[0] == 0) found = new int[] {0, chosen, chosen};
            found[0]++;
            found[2] &= chosen;
        }
        return found[what];
    }

    int like() {
        int best = 0;
        for (int p = 1; p < 4; p++) if (far(p) < far(best)) best = p;
        return best;
    }

    private Set<Set<Integer>> ruled(int k, int s, int turn) {
        int n = w.pins.size();
        Set<Set<Integer>> lines = new HashSet<>();
        for (int i = 0; i < n; i++) {
            int to = (k * i + s) % n;
            if (to != i) lines.add(Set.of((i + turn) % n, (to + turn) % n));
        }
        return lines;
    }

    private boolean canRule(int k, int s) {
        return in(k, 0, 99) && in(s, 0, 99) && !w.pins.isEmpty();
    }

    int rule(int k, int s, int what) {
        if (!canRule(k, s) || !in(what, 0, 1)) return NONE;
        if (what == 0) return ruled(k, s, 0).size();
        int t = 1;
        while (!ruled(k, s, 0).equals(ruled(k, s, t))) t++;
        return t;
    }

    int drawn(int k, int s, int x, int y) {
        if (!canRule(k, s) || !square(x, y)) return NONE;
        int sum = 0;
        for (Set<Integer> line : ruled(k, s, 0)) {
            List<Integer> ends = new ArrayList<>(line);
            sum += samples(w, ends.get(0), ends.get(1), x, y);
        }
        return sum;
    }

    boolean undo() {
        if (undo.isEmpty()) return false;
        List<Integer> row = w.rows.get(undo.remove(undo.size() - 1));
        row.remove(row.size() - 1);
        return true;
    }

    boolean image(boolean take) {
        if (take) {
            taken = w.copy();
            return true;
        }
        if (taken == null) return false;
        w = taken.copy();
        undo.clear();
        return true;
    }

    int look(int what) {
        switch (what) {
            case 0: return w.s;
            case 1: return w.pins.size();
            case 2: return w.set.size();
            case 3: return PlainLaw.lines(w.law);
            case 4: return undo.size();
            case 5: {
                int sum = 0;
                for (List<Integer> row : w.rows) for (int i = 1; i < row.size(); i++) sum += length(w, row.get(i - 1), row.get(i));
                return sum;
            }
            default:
                if (in(what, 10, 12)) return w.shade[what - 10];
                if (in(what, 20, 19 + w.pins.size())) return w.pins.get(what - 20)[0] + 10 * w.pins.get(what - 20)[1];
                return NONE;
        }
    }
}
