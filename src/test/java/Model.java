import java.util.ArrayDeque;
import java.util.ArrayList;
import java.util.Arrays;
import java.util.Collections;
import java.util.HashMap;
import java.util.HashSet;
import java.util.List;
import java.util.Map;
import java.util.Set;
import java.util.TreeMap;

/**
 * The document once more, as plainly as the Java library lets it be told, and on purpose not as
 * RingMeets does it: rows of GAPS are lists, a way to stand is the list of WALKERS on each CELL.
 */
final class Model {
    private static final int UNKNOWN = -1, OUTSIDE = -2, STATE = -3, FULL = -4, NONE = -6;

    private int cells = 8;
    private List<Integer> walkers = new ArrayList<>(Collections.nCopies(8, 0));
    private List<int[]> rules = new ArrayList<>();
    private final Model[] images = new Model[2];

    /** A call by its name, so that a run can be told and done on both. */
    int call(String name, int[] a) {
        switch (name) {
            case "ring": return ring(a[0]);
            case "stand": return stand(a[0], a[1]);
            case "gap": return gap(a[0], a[1], a[2]);
            case "shape": return shape(a[0]);
            case "rule": return rule(a);
            case "whom": return whom(a[0], a[1]);
            case "drop": return drop(a[0]);
            case "of": return of(a[0], a[1]);
            case "does": return does(a[0], a[1]);
            case "step": return step(a[0]);
            case "meets": return meets(a[0], a[1]);
            case "first": return first(a[0]);
            case "blind": return blind(a[0]);
            case "used": return used(a[0]);
            case "all": return all(a[0], a[1], a[2]);
            case "image": return image(a[0]);
            case "restore": return restore(a[0]);
            case "count": return count(a[0]);
            default: throw new IllegalArgumentException(name);
        }
    }

    private static boolean in(int v, int least, int most) {
        return least <= v && v <= most;
    }

    private int ring(int v) {
        if (!in(v, 3, 10)) return OUTSIDE;
        int was = cells;
        cells = v;
        walkers = new ArrayList<>(Collections.nCopies(v, 0));
        return was;
    }

    private int sum() {
        return walkers.stream().mapToInt(w -> w).sum();
    }

    private int stand(int cell, int n) {
        if (!in(cell, 0, cells - 1)) return UNKNOWN;
        if (!in(n, 0, 5)) return OUTSIDE;
        if (sum() - walkers.get(cell) + n > 5) return FULL;
        return walkers.set(cell, n);
    }

    // ---- what is seen

    private static List<Integer> stands(List<Integer> w) {
        List<Integer> found = new ArrayList<>();
        for (int c = 0; c < w.size(); c++) if (w.get(c) > 0) found.add(c);
        return found;
    }

    private static List<Integer> gaps(List<Integer> w, int cell, boolean up) {
        List<Integer> s = stands(w);
        int k = s.size();
        int me = s.indexOf(cell);
        List<Integer> row = new ArrayList<>();
        for (int i = 0; i < k; i++) {
            int a = s.get(Math.floorMod(up ? me + i : me - i, k));
            int b = s.get(Math.floorMod(up ? me + i + 1 : me - i - 1, k));
            int far = Math.floorMod(up ? b - a : a - b, w.size());
            row.add(far == 0 ? w.size() : far);
        }
        return row;
    }

    private static int compare(List<Integer> a, List<Integer> b) {
        return Arrays.compare(a.stream().mapToInt(v -> v).toArray(), b.stream().mapToInt(v -> v).toArray());
    }

    private static boolean viewIsUp(List<Integer> w, int cell) {
        return compare(gaps(w, cell, true), gaps(w, cell, false)) <= 0;
    }

    private static boolean even(List<Integer> w, int cell) {
        return gaps(w, cell, true).equals(gaps(w, cell, false));
    }

    private static List<Integer> view(List<Integer> w, int cell) {
        return gaps(w, cell, viewIsUp(w, cell));
    }

    private boolean isStand(int cell) {
        return in(cell, 0, cells - 1) && walkers.get(cell) > 0;
    }

    private int gap(int cell, int what, int i) {
        if (!isStand(cell)) return UNKNOWN;
        if (!in(what, 0, 2)) return OUTSIDE;
        List<Integer> row = what == 2 ? view(walkers, cell) : gaps(walkers, cell, what == 0);
        if (i == -1) return row.size();
        return in(i, 0, row.size() - 1) ? row.get(i) : NONE;
    }

    private int shape(int what) {
        List<Integer> s = stands(walkers);
        Set<List<Integer>> ups = new HashSet<>();
        Set<List<Integer>> downs = new HashSet<>();
        Set<List<Integer>> views = new HashSet<>();
        int evens = 0;
        for (int c : s) {
            ups.add(gaps(walkers, c, true));
            downs.add(gaps(walkers, c, false));
            views.add(view(walkers, c));
            if (even(walkers, c)) evens++;
        }
        boolean turned = ups.size() < s.size();
        boolean mirrored = ups.stream().anyMatch(downs::contains);
        switch (what) {
            case 0: return turned ? 1 : 0;
            case 1: return mirrored ? 1 : 0;
            case 2: return !s.isEmpty() && !turned && !mirrored ? 1 : 0;
            case 3: return evens;
            case 4: return views.size();
            case 5: return leastTurn(s);
            default: return OUTSIDE;
        }
    }

    private int leastTurn(List<Integer> s) {
        for (int by = 1; by <= cells && !s.isEmpty(); by++) {
            int turn = by;
            if (s.stream().allMatch(c -> s.contains((c + turn) % cells))) return by;
        }
        return NONE;
    }

    // ---- rules

    private int rule(int[] a) {
        boolean good = in(a[0], 0, 5) && in(a[1], 0, 4) && in(a[2], 0, 2) && in(a[3], 1, 10) && in(a[4], 0, 2);
        if (!good) return OUTSIDE;
        if (rules.size() == 10) return FULL;
        rules.add(new int[] {a[0], a[1], a[2], a[3], a[4], 2});
        return rules.size() - 1;
    }

    private int whom(int rule, int v) {
        if (!in(rule, 0, rules.size() - 1)) return UNKNOWN;
        if (!in(v, 0, 2)) return OUTSIDE;
        int was = rules.get(rule)[5];
        rules.get(rule)[5] = v;
        return was;
    }

    private int drop(int rule) {
        if (!in(rule, 0, rules.size() - 1)) return UNKNOWN;
        rules.remove(rule);
        return rules.size();
    }

    private int of(int rule, int what) {
        if (!in(rule, 0, rules.size() - 1)) return UNKNOWN;
        return in(what, 0, 5) ? rules.get(rule)[what] : OUTSIDE;
    }

    private int ruleOf(List<Integer> w, int cell, boolean blind) {
        List<Integer> seen = view(w, cell);
        boolean tower = !blind && w.get(cell) >= 2;
        for (int r = 0; r < rules.size(); r++) {
            int[] t = rules.get(r);
            if (t[0] != 0 && t[0] != seen.size()) continue;
            if (t[5] == 0 && tower || t[5] == 1 && !tower) continue;
            if (t[1] >= seen.size()) continue;
            int v = seen.get(t[1]);
            if (t[2] == 0 && v < t[3] || t[2] == 1 && v == t[3] || t[2] == 2 && v > t[3]) return r;
        }
        return NONE;
    }

    private int doneBy(List<Integer> w, int cell, boolean blind) {
        int r = ruleOf(w, cell, blind);
        return r == NONE ? 0 : rules.get(r)[4];
    }

    private int goal(List<Integer> w, int cell, boolean blind) {
        int done = doneBy(w, cell, blind);
        if (done == 0) return cell;
        int by = viewIsUp(w, cell) ? 1 : -1;
        return Math.floorMod(done == 1 ? cell + by : cell - by, w.size());
    }

    private int does(int cell, int what) {
        if (!isStand(cell)) return UNKNOWN;
        switch (what) {
            case 0: return viewIsUp(walkers, cell) ? 1 : 0;
            case 1: return even(walkers, cell) ? 1 : 0;
            case 2: return ruleOf(walkers, cell, false);
            case 3: return doneBy(walkers, cell, false);
            case 4: return goal(walkers, cell, false);
            default: return OUTSIDE;
        }
    }

    private List<Integer> behind(List<Integer> w, int set, boolean blind) {
        List<Integer> next = new ArrayList<>(Collections.nCopies(w.size(), 0));
        for (int c : stands(w)) {
            int to = (set >> c & 1) == 1 ? goal(w, c, blind) : c;
            next.set(to, next.get(to) + w.get(c));
        }
        return next;
    }

    private int step(int set) {
        for (int c = 0; c < 32; c++) {
            if ((set >>> c & 1) == 1 && !isStand(c)) return OUTSIDE;
        }
        walkers = behind(walkers, set, false);
        return stands(walkers).size();
    }

    // ---- meeting

    /** Ways to stand that are one STATE: more than two on a CELL are as two. */
    private static List<Integer> stateOf(List<Integer> w) {
        List<Integer> s = new ArrayList<>();
        for (int n : w) s.add(Math.min(n, 2));
        return s;
    }

    private static boolean met(List<Integer> w) {
        return stands(w).size() == 1;
    }

    /** By which sets of STANDS a STEP may be, and the STATE behind it; sorted by the sets. */
    private TreeMap<Integer, List<Integer>> steps(List<Integer> w, int schedule, boolean blind) {
        TreeMap<Integer, List<Integer>> found = new TreeMap<>();
        if (met(w)) return found;
        int movers = 0;
        for (int c : stands(w)) if (doneBy(w, c, blind) != 0) movers |= 1 << c;
        for (int set = 1; set <= movers; set++) {
            boolean may = (set & ~movers) == 0;
            if (schedule == 0) may &= Integer.bitCount(set) == 1;
            if (schedule == 1) may &= set == movers;
            if (may) found.put(set, stateOf(behind(w, set, blind)));
        }
        return found;
    }

    private Set<List<Integer>> reach(List<Integer> from, Map<List<Integer>, TreeMap<Integer, List<Integer>>> graph) {
        Set<List<Integer>> seen = new HashSet<>();
        ArrayDeque<List<Integer>> open = new ArrayDeque<>();
        seen.add(from);
        open.add(from);
        while (!open.isEmpty()) {
            for (List<Integer> to : graph.get(open.poll()).values()) {
                if (seen.add(to)) open.add(to);
            }
        }
        return seen;
    }

    private void grow(List<Integer> w, int schedule, boolean blind, Map<List<Integer>, TreeMap<Integer, List<Integer>>> graph) {
        ArrayDeque<List<Integer>> open = new ArrayDeque<>();
        open.add(w);
        while (!open.isEmpty()) {
            List<Integer> at = open.poll();
            if (graph.containsKey(at)) continue;
            graph.put(at, steps(at, schedule, blind));
            open.addAll(graph.get(at).values());
        }
    }

    private int soon(List<Integer> from, Map<List<Integer>, TreeMap<Integer, List<Integer>>> graph) {
        Map<List<Integer>, Integer> far = new HashMap<>();
        ArrayDeque<List<Integer>> open = new ArrayDeque<>();
        far.put(from, 0);
        open.add(from);
        while (!open.isEmpty()) {
            List<Integer> at = open.poll();
            if (met(at)) return far.get(at);
            for (List<Integer> to : graph.get(at).values()) {
                if (far.putIfAbsent(to, far.get(at) + 1) == null) open.add(to);
            }
        }
        return NONE;
    }

    /** Depth first; from a STATE behind which comes one that is still open they can go on for ever. */
    private int late(List<Integer> at, Map<List<Integer>, TreeMap<Integer, List<Integer>>> graph, Map<List<Integer>, Integer> known) {
        if (met(at)) return 0;
        if (known.containsKey(at)) return known.get(at);
        known.put(at, NONE);
        int most = -1;
        boolean never = graph.get(at).isEmpty();
        for (List<Integer> to : graph.get(at).values()) {
            int v = late(to, graph, known);
            never |= v == NONE;
            most = Math.max(most, v);
        }
        known.put(at, never ? NONE : most + 1);
        return known.get(at);
    }

    private int kind(List<Integer> at, Map<List<Integer>, TreeMap<Integer, List<Integer>>> graph, Map<List<Integer>, Integer> lates) {
        if (met(at)) return 0;
        if (late(at, graph, lates) != NONE) return 1;
        return soon(at, graph) != NONE ? 2 : 3;
    }

    private Map<List<Integer>, TreeMap<Integer, List<Integer>>> graphNow(int schedule, boolean blind) {
        Map<List<Integer>, TreeMap<Integer, List<Integer>>> graph = new HashMap<>();
        grow(stateOf(walkers), schedule, blind, graph);
        return graph;
    }

    private int meets(int schedule, int what) {
        if (!in(schedule, 0, 2) || !in(what, 0, 4)) return OUTSIDE;
        if (sum() == 0) return STATE;
        Map<List<Integer>, TreeMap<Integer, List<Integer>>> graph = graphNow(schedule, false);
        List<Integer> start = stateOf(walkers);
        switch (what) {
            case 0: return soon(start, graph);
            case 1: return late(start, graph, new HashMap<>());
            case 2: return kind(start, graph, new HashMap<>());
            case 3: return reach(start, graph).size();
            default: return (int) reach(start, graph).stream().filter(w -> !met(w) && graph.get(w).isEmpty()).count();
        }
    }

    private int first(int schedule) {
        if (!in(schedule, 0, 2)) return OUTSIDE;
        if (sum() == 0) return STATE;
        Map<List<Integer>, TreeMap<Integer, List<Integer>>> graph = graphNow(schedule, false);
        int left = soon(stateOf(walkers), graph);
        if (left == NONE || left == 0) return NONE;
        for (Map.Entry<Integer, List<Integer>> e : graph.get(stateOf(walkers)).entrySet()) {
            if (soon(e.getValue(), graph) == left - 1) return e.getKey();
        }
        throw new IllegalStateException("no first STEP");
    }

    private int blind(int schedule) {
        if (!in(schedule, 0, 2)) return OUTSIDE;
        if (sum() == 0) return STATE;
        return kind(stateOf(walkers), graphNow(schedule, true), new HashMap<>());
    }

    private int used(int schedule) {
        if (!in(schedule, 0, 2)) return OUTSIDE;
        if (sum() == 0) return STATE;
        int set = 0;
        for (List<Integer> w : graphNow(schedule, false).keySet()) {
            if (met(w)) continue;
            for (int c : stands(w)) {
                int r = ruleOf(w, c, false);
                if (r != NONE) set |= 1 << r;
            }
        }
        return set;
    }

    private int all(int n, int schedule, int kind) {
        if (!in(n, 1, Math.min(5, cells)) || !in(schedule, 0, 2) || !in(kind, 0, 3)) return OUTSIDE;
        Map<List<Integer>, TreeMap<Integer, List<Integer>>> graph = new HashMap<>();
        Map<List<Integer>, Integer> lates = new HashMap<>();
        int sum = 0;
        for (int set = 0; set < 1 << cells; set++) {
            if (Integer.bitCount(set) != n) continue;
            List<Integer> w = new ArrayList<>();
            for (int c = 0; c < cells; c++) w.add(set >> c & 1);
            grow(w, schedule, false, graph);
            if (kind(w, graph, lates) == kind) sum++;
        }
        return sum;
    }

    // ---- images

    private void copyFrom(Model other) {
        cells = other.cells;
        walkers = new ArrayList<>(other.walkers);
        rules = new ArrayList<>();
        for (int[] r : other.rules) rules.add(r.clone());
    }

    private int image(int k) {
        if (!in(k, 0, 1)) return OUTSIDE;
        images[k] = new Model();
        images[k].copyFrom(this);
        return 1;
    }

    private int restore(int k) {
        if (!in(k, 0, 1)) return OUTSIDE;
        if (images[k] == null) return STATE;
        copyFrom(images[k]);
        return 1;
    }

    private int count(int what) {
        int stands = 0;
        int towers = 0;
        for (int c = 0; c < cells; c++) {
            if (walkers.get(c) >= 1) stands |= 1 << c;
            if (walkers.get(c) >= 2) towers |= 1 << c;
        }
        switch (what) {
            case 0: return cells;
            case 1: return sum();
            case 2: return stands;
            case 3: return towers;
            case 4: return rules.size();
            case 5: return (images[0] != null ? 1 : 0) + (images[1] != null ? 2 : 0);
            default:
                if (!in(what, 10, 19)) return OUTSIDE;
                return what - 10 < cells ? walkers.get(what - 10) : 0;
        }
    }
}
