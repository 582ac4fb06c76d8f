import java.util.ArrayDeque;
import java.util.ArrayList;
import java.util.Arrays;
import java.util.Comparator;
import java.util.HashMap;
import java.util.List;
import java.util.Map;
import java.util.TreeSet;
import java.util.function.Supplier;

/**
 * The document, told once more as plainly and as slowly as it can be: every word of it is computed from its definition.
 * It bears the face of EdgeIdeals, so that both can be asked the same.
 */
final class Model {
    static final int BAD_ARGUMENT = -1;
    static final int NONE = -2;
    static final int FULL = -3;
    static final int NOT_POSSIBLE = -5;
    static final long NO_VALUE = Long.MIN_VALUE;

    interface MonomialTest {
        boolean accepts(int m);
    }

    private int n = 4;
    private TreeSet<List<Integer>> edges = new TreeSet<>(Comparator.comparing(Object::toString));
    private ArrayDeque<List<List<Integer>>> history = new ArrayDeque<>();
    private List<MonomialTest> tests = new ArrayList<>();
    private List<Integer> list = new ArrayList<>();
    private StringBuilder input = new StringBuilder();
    private final Object[] slots = new Object[4];
    private boolean snapshotTaken;
    private int snapshotN;
    private List<List<Integer>> snapshotEdges;
    private List<MonomialTest> snapshotTests;
    private List<Integer> snapshotList;

    // What was found out about the present edges; without it the long runs would take hours.
    private String knownFor = "";
    private final Map<Integer, Integer> knownOrders = new HashMap<>();
    private final Map<String, List<Integer>> knownRows = new HashMap<>();

    private void lookAtGraph() {
        String now = n + ":" + edges;
        if (!now.equals(knownFor)) {
            knownFor = now;
            knownOrders.clear();
            knownRows.clear();
        }
    }

    private List<Integer> known(String key, Supplier<List<Integer>> findOut) {
        lookAtGraph();
        if (!knownRows.containsKey(key)) {
            knownRows.put(key, findOut.get());
        }
        return knownRows.get(key);
    }

    private boolean adjacent(int u, int v) {
        return edges.contains(List.of(Math.min(u, v), Math.max(u, v)));
    }

    private boolean vertex(int v) {
        return 0 <= v && v < n;
    }

    private int codes() {
        int count = 1;
        for (int v = 0; v < n; v++) {
            count *= 4;
        }
        return count;
    }

    private boolean code(int m) {
        return 0 <= m && m < codes();
    }

    private static boolean power(int s) {
        return 1 <= s && s <= 3;
    }

    static int[] exponents(int m) {
        int[] e = new int[7];
        for (int v = 0; v < 7; v++) {
            e[v] = m % 4;
            m /= 4;
        }
        return e;
    }

    static int codeOf(int[] e) {
        int m = 0;
        for (int v = 6; v >= 0; v--) {
            m = 4 * m + e[v];
        }
        return m;
    }

    static boolean divides(int a, int b) {
        int[] x = exponents(a);
        int[] y = exponents(b);
        for (int v = 0; v < 7; v++) {
            if (x[v] > y[v]) {
                return false;
            }
        }
        return true;
    }

    private void replaceEdges(List<List<Integer>> now) {
        edges.clear();
        edges.addAll(now);
    }

    private void record() {
        history.addLast(new ArrayList<>(edges));
        if (history.size() > 12) {
            history.removeFirst();
        }
    }

    public int setVertexCount(int count) {
        if (count < 1 || count > 7) {
            return BAD_ARGUMENT;
        }
        int previous = n;
        n = count;
        edges.clear();
        history.clear();
        return previous;
    }

    public int toggleEdge(int u, int v) {
        if (!vertex(u) || !vertex(v) || u == v) {
            return BAD_ARGUMENT;
        }
        record();
        List<Integer> edge = List.of(Math.min(u, v), Math.max(u, v));
        if (edges.remove(edge)) {
            return 0;
        }
        edges.add(edge);
        return 1;
    }

    public int build(int kind) {
        if (kind < 0 || kind > 5) {
            return BAD_ARGUMENT;
        }
        if (kind == 1 && n < 3) {
            return NOT_POSSIBLE;
        }
        List<List<Integer>> now = new ArrayList<>();
        for (int u = 0; u < n; u++) {
            for (int v = u + 1; v < n; v++) {
                boolean next = v == u + 1;
                boolean closing = u == 0 && v == n - 1;
                boolean there = kind == 1 && (next || closing) || kind == 2 && next || kind == 3
                        || kind == 4 && u == 0 || kind == 5 && !adjacent(u, v);
                if (there) {
                    now.add(List.of(u, v));
                }
            }
        }
        record();
        replaceEdges(now);
        return edges.size();
    }

    public int revertChange() {
        if (history.isEmpty()) {
            return NOT_POSSIBLE;
        }
        replaceEdges(history.removeLast());
        return history.size();
    }

    public int vertexCount() {
        return n;
    }

    public int edgeCount() {
        return edges.size();
    }

    public int neighbors(int v) {
        if (!vertex(v)) {
            return BAD_ARGUMENT;
        }
        int set = 0;
        for (int u = 0; u < n; u++) {
            if (adjacent(u, v)) {
                set |= 1 << u;
            }
        }
        return set;
    }

    public int componentCount() {
        int[] label = new int[n];
        for (int v = 0; v < n; v++) {
            label[v] = v;
        }
        int count = n;
        for (List<Integer> edge : edges) {
            int from = label[edge.get(0)];
            int to = label[edge.get(1)];
            if (from != to) {
                count--;
                for (int v = 0; v < n; v++) {
                    if (label[v] == from) {
                        label[v] = to;
                    }
                }
            }
        }
        return count;
    }

    // A graph has an odd cycle if and only if it has a closed walk of odd length at most n.
    public int hasOddCycle() {
        for (int start = 0; start < n; start++) {
            int reached = 1 << start;
            for (int length = 1; length <= n; length++) {
                int next = 0;
                for (int v = 0; v < n; v++) {
                    if ((reached >> v & 1) != 0) {
                        next |= neighbors(v);
                    }
                }
                reached = next;
                if (length % 2 == 1 && (reached >> start & 1) != 0) {
                    return 1;
                }
            }
        }
        return 0;
    }

    public int matchingNumber() {
        return bestMatching(new ArrayList<>(edges), 0, 0);
    }

    private int bestMatching(List<List<Integer>> all, int from, int used) {
        if (from == all.size()) {
            return 0;
        }
        int best = bestMatching(all, from + 1, used);
        int ends = 1 << all.get(from).get(0) | 1 << all.get(from).get(1);
        if ((used & ends) == 0) {
            best = Math.max(best, 1 + bestMatching(all, from + 1, used | ends));
        }
        return best;
    }

    private boolean covers(int set) {
        for (List<Integer> edge : edges) {
            if ((set >> edge.get(0) & 1) == 0 && (set >> edge.get(1) & 1) == 0) {
                return false;
            }
        }
        return true;
    }

    private List<Integer> minimalCovers() {
        return known("covers", () -> {
            List<Integer> found = new ArrayList<>();
            for (int set = 0; set < 1 << n; set++) {
                boolean minimal = covers(set);
                for (int sub = 0; sub < set && minimal; sub++) {
                    if ((sub & ~set) == 0 && covers(sub)) {
                        minimal = false;
                    }
                }
                if (minimal) {
                    found.add(set);
                }
            }
            return found;
        });
    }

    private static int at(List<Integer> row, int i) {
        return i < 0 ? BAD_ARGUMENT : i < row.size() ? row.get(i) : NONE;
    }

    public int coverCount() {
        return minimalCovers().size();
    }

    public int cover(int i) {
        return at(minimalCovers(), i);
    }

    public int height() {
        return minimalCovers().stream().mapToInt(Integer::bitCount).min().getAsInt();
    }

    public int bigHeight() {
        return minimalCovers().stream().mapToInt(Integer::bitCount).max().getAsInt();
    }

    private List<Integer> elimination(int complement) {
        List<Integer> remaining = new ArrayList<>();
        for (int v = 0; v < n; v++) {
            remaining.add(v);
        }
        List<Integer> removed = new ArrayList<>();
        boolean found = true;
        while (found) {
            found = false;
            for (Integer v : remaining) {
                boolean qualifies = true;
                for (int a : remaining) {
                    for (int b : remaining) {
                        if (a != b && a != v && b != v && linked(complement, v, a) && linked(complement, v, b)
                                && !linked(complement, a, b)) {
                            qualifies = false;
                        }
                    }
                }
                if (qualifies) {
                    removed.add(v);
                    remaining.remove(v);
                    found = true;
                    break;
                }
            }
        }
        return removed;
    }

    private boolean linked(int complement, int u, int v) {
        return adjacent(u, v) == (complement == 0);
    }

    private static boolean flag(int complement) {
        return complement == 0 || complement == 1;
    }

    public int eliminationLength(int complement) {
        return flag(complement) ? elimination(complement).size() : BAD_ARGUMENT;
    }

    public int eliminated(int complement, int i) {
        return flag(complement) ? at(elimination(complement), i) : BAD_ARGUMENT;
    }

    public int isChordal(int complement) {
        return flag(complement) ? elimination(complement).size() == n ? 1 : 0 : BAD_ARGUMENT;
    }

    public int degree(int m) {
        return code(m) ? Arrays.stream(exponents(m)).sum() : BAD_ARGUMENT;
    }

    public int exponent(int m, int v) {
        return code(m) && vertex(v) ? exponents(m)[v] : BAD_ARGUMENT;
    }

    public int powerOrder(int m) {
        if (!code(m)) {
            return BAD_ARGUMENT;
        }
        lookAtGraph();
        return orderOf(m);
    }

    private int orderOf(int m) {
        Integer known = knownOrders.get(m);
        if (known != null) {
            return known;
        }
        int best = 0;
        for (List<Integer> edge : edges) {
            int[] e = exponents(m);
            if (e[edge.get(0)] > 0 && e[edge.get(1)] > 0) {
                e[edge.get(0)]--;
                e[edge.get(1)]--;
                best = Math.max(best, 1 + orderOf(codeOf(e)));
            }
        }
        knownOrders.put(m, best);
        return best;
    }

    public int symbolicOrder(int m) {
        if (!code(m)) {
            return BAD_ARGUMENT;
        }
        int[] e = exponents(m);
        int least = Integer.MAX_VALUE;
        for (int set : minimalCovers()) {
            int sum = 0;
            for (int v = 0; v < n; v++) {
                sum += (set >> v & 1) * e[v];
            }
            least = Math.min(least, sum);
        }
        return edges.isEmpty() ? 0 : least;
    }

    public int multiply(int a, int b) {
        if (!code(a) || !code(b)) {
            return BAD_ARGUMENT;
        }
        int[] e = exponents(a);
        for (int v = 0; v < 7; v++) {
            e[v] += exponents(b)[v];
            if (e[v] > 3) {
                return FULL;
            }
        }
        return codeOf(e);
    }

    public int divide(int a, int b) {
        if (!code(a) || !code(b)) {
            return BAD_ARGUMENT;
        }
        int[] e = exponents(a);
        for (int v = 0; v < 7; v++) {
            e[v] -= exponents(b)[v];
            if (e[v] < 0) {
                return NOT_POSSIBLE;
            }
        }
        return codeOf(e);
    }

    public int lcm(int a, int b) {
        if (!code(a) || !code(b)) {
            return BAD_ARGUMENT;
        }
        int[] e = exponents(a);
        for (int v = 0; v < 7; v++) {
            e[v] = Math.max(e[v], exponents(b)[v]);
        }
        return codeOf(e);
    }

    public int gcd(int a, int b) {
        if (!code(a) || !code(b)) {
            return BAD_ARGUMENT;
        }
        int[] e = exponents(a);
        for (int v = 0; v < 7; v++) {
            e[v] = Math.min(e[v], exponents(b)[v]);
        }
        return codeOf(e);
    }

    private boolean inPower(boolean symbolic, int s, int m) {
        return (symbolic ? symbolicOrder(m) : powerOrder(m)) >= s;
    }

    private List<Integer> generators(boolean symbolic, int s) {
        return known(symbolic + " " + s, () -> {
            List<Integer> found = new ArrayList<>();
            for (int m = codes() - 1; m >= 0; m--) {
                if (inPower(symbolic, s, m) && isMinimal(symbolic, s, m)) {
                    found.add(m);
                }
            }
            return found;
        });
    }

    // Small graphs are asked by the definition; in large ones it is enough to look one exponent down.
    private boolean isMinimal(boolean symbolic, int s, int m) {
        if (n <= 3) {
            for (int other = 0; other < codes(); other++) {
                if (other != m && divides(other, m) && inPower(symbolic, s, other)) {
                    return false;
                }
            }
            return true;
        }
        for (int v = 0; v < n; v++) {
            int[] e = exponents(m);
            if (e[v] > 0) {
                e[v]--;
                if (inPower(symbolic, s, codeOf(e))) {
                    return false;
                }
            }
        }
        return true;
    }

    public int generatorCount(int s) {
        return power(s) ? generators(false, s).size() : BAD_ARGUMENT;
    }

    public int generator(int s, int i) {
        return power(s) ? at(generators(false, s), i) : BAD_ARGUMENT;
    }

    public int symbolicGeneratorCount(int s) {
        return power(s) ? generators(true, s).size() : BAD_ARGUMENT;
    }

    public int symbolicGenerator(int s, int i) {
        return power(s) ? at(generators(true, s), i) : BAD_ARGUMENT;
    }

    public int powersAgree(int s) {
        return power(s) ? generators(false, s).equals(generators(true, s)) ? 1 : 0 : BAD_ARGUMENT;
    }

    public int firstDifference(int s) {
        if (!power(s)) {
            return BAD_ARGUMENT;
        }
        return generators(true, s).stream().filter(m -> powerOrder(m) < s).mapToInt(m -> m).min().orElse(NONE);
    }

    private int countIn(boolean symbolic, int s, int degree) {
        if (!power(s) || degree < 0 || degree > 21) {
            return BAD_ARGUMENT;
        }
        int count = 0;
        for (int m = 0; m < codes(); m++) {
            if (degree(m) == degree && inPower(symbolic, s, m)) {
                count++;
            }
        }
        return count;
    }

    public int countInPower(int s, int degree) {
        return countIn(false, s, degree);
    }

    public int countInSymbolicPower(int s, int degree) {
        return countIn(true, s, degree);
    }

    private int[] sequence(int order) {
        String digits = Integer.toString(order);
        if (digits.length() != n) {
            return null;
        }
        int[] sequence = new int[n];
        for (int p = 0; p < n; p++) {
            sequence[p] = digits.charAt(p) - '1';
            if (!vertex(sequence[p]) || digits.indexOf(digits.charAt(p)) != p) {
                return null;
            }
        }
        return sequence;
    }

    private List<Integer> ordered(int s, int[] sequence) {
        return known(s + Arrays.toString(sequence), () -> {
            List<Integer> row = new ArrayList<>(generators(false, s));
            row.sort((a, b) -> {
                for (int v : sequence) {
                    if (exponents(a)[v] != exponents(b)[v]) {
                        return exponents(b)[v] - exponents(a)[v];
                    }
                }
                return 0;
            });
            return row;
        });
    }

    private int stepError(int s, int order, int i) {
        if (!power(s) || sequence(order) == null || i < 0) {
            return BAD_ARGUMENT;
        }
        return i < generators(false, s).size() ? 0 : NONE;
    }

    private static int colonOf(List<Integer> row, int i) {
        int set = 0;
        int[] g = exponents(row.get(i));
        for (int j = 0; j < i; j++) {
            int[] h = exponents(row.get(j));
            int exceeding = -1;
            boolean single = true;
            for (int v = 0; v < 7; v++) {
                if (h[v] > g[v]) {
                    single &= exceeding < 0 && h[v] == g[v] + 1;
                    exceeding = v;
                }
            }
            if (single && exceeding >= 0) {
                set |= 1 << exceeding;
            }
        }
        return set;
    }

    private static boolean linearAt(List<Integer> row, int i) {
        int colon = colonOf(row, i);
        int[] g = exponents(row.get(i));
        for (int j = 0; j < i; j++) {
            int[] h = exponents(row.get(j));
            boolean met = false;
            for (int v = 0; v < 7; v++) {
                met |= (colon >> v & 1) != 0 && h[v] > g[v];
            }
            if (!met) {
                return false;
            }
        }
        return true;
    }

    public int orderedGenerator(int s, int order, int i) {
        int error = stepError(s, order, i);
        return error != 0 ? error : ordered(s, sequence(order)).get(i);
    }

    public int colonVariables(int s, int order, int i) {
        int error = stepError(s, order, i);
        return error != 0 ? error : colonOf(ordered(s, sequence(order)), i);
    }

    public int isLinearStep(int s, int order, int i) {
        int error = stepError(s, order, i);
        return error != 0 ? error : linearAt(ordered(s, sequence(order)), i) ? 1 : 0;
    }

    public int firstNonLinearStep(int s, int order) {
        if (!power(s) || sequence(order) == null) {
            return BAD_ARGUMENT;
        }
        List<Integer> row = ordered(s, sequence(order));
        for (int i = 0; i < row.size(); i++) {
            if (!linearAt(row, i)) {
                return i;
            }
        }
        return NONE;
    }

    public long bettiNumber(int s, int order, int k) {
        if (!power(s) || sequence(order) == null || k < 0 || k > 7 || firstNonLinearStep(s, order) != NONE) {
            return NO_VALUE;
        }
        List<Integer> row = ordered(s, sequence(order));
        long sum = 0;
        for (int i = 0; i < row.size(); i++) {
            int colon = colonOf(row, i);
            for (int sub = 0; sub < 128; sub++) {
                if ((sub & ~colon) == 0 && Integer.bitCount(sub) == k) {
                    sum++;
                }
            }
        }
        return sum;
    }

    private int addTest(MonomialTest test) {
        if (tests.size() == 8) {
            return FULL;
        }
        tests.add(test);
        return tests.size() - 1;
    }

    private boolean test(int t) {
        return 0 <= t && t < tests.size();
    }

    public int addDegreeTest(int degree) {
        return degree < 0 || degree > 21 ? BAD_ARGUMENT : addTest(m -> degree(m) == degree);
    }

    public int addExponentTest(int v, int least) {
        return v < 0 || v > 6 || least < 0 || least > 3 ? BAD_ARGUMENT : addTest(m -> exponents(m)[v] >= least);
    }

    public int addSquareFreeTest() {
        return addTest(m -> Arrays.stream(exponents(m)).max().getAsInt() <= 1);
    }

    public int addPowerTest(int s) {
        return power(s) ? addTest(m -> powerOrder(m) >= s) : BAD_ARGUMENT;
    }

    public int addSymbolicTest(int s) {
        return power(s) ? addTest(m -> symbolicOrder(m) >= s) : BAD_ARGUMENT;
    }

    public int addAndTest(int first, int second) {
        if (!test(first) || !test(second)) {
            return BAD_ARGUMENT;
        }
        MonomialTest a = tests.get(first);
        MonomialTest b = tests.get(second);
        return addTest(m -> a.accepts(m) && b.accepts(m));
    }

    public int addOrTest(int first, int second) {
        if (!test(first) || !test(second)) {
            return BAD_ARGUMENT;
        }
        MonomialTest a = tests.get(first);
        MonomialTest b = tests.get(second);
        return addTest(m -> a.accepts(m) || b.accepts(m));
    }

    public int addNotTest(int test) {
        if (!test(test)) {
            return BAD_ARGUMENT;
        }
        MonomialTest a = tests.get(test);
        return addTest(m -> !a.accepts(m));
    }

    public int testCount() {
        return tests.size();
    }

    public int passes(int test, int m) {
        return test(test) && code(m) ? tests.get(test).accepts(m) ? 1 : 0 : BAD_ARGUMENT;
    }

    private List<Integer> accepted(int test) {
        List<Integer> found = new ArrayList<>();
        for (int m = 0; m < codes(); m++) {
            if (tests.get(test).accepts(m)) {
                found.add(m);
            }
        }
        return found;
    }

    public int passCount(int test) {
        return test(test) ? accepted(test).size() : BAD_ARGUMENT;
    }

    public int passing(int test, int i) {
        return test(test) ? at(accepted(test), i) : BAD_ARGUMENT;
    }

    public int append(int m) {
        if (!code(m)) {
            return BAD_ARGUMENT;
        }
        if (list.size() == 24) {
            return FULL;
        }
        list.add(m);
        return list.size();
    }

    private int fill(boolean symbolic, int s) {
        if (!power(s)) {
            return BAD_ARGUMENT;
        }
        if (generators(symbolic, s).size() > 24) {
            return FULL;
        }
        list = new ArrayList<>(generators(symbolic, s));
        return list.size();
    }

    public int fillWithGenerators(int s) {
        return fill(false, s);
    }

    public int fillWithSymbolicGenerators(int s) {
        return fill(true, s);
    }

    public int listSize() {
        return list.size();
    }

    public int element(int i) {
        return at(list, i);
    }

    public int clearList() {
        int removed = list.size();
        list.clear();
        return removed;
    }

    public int minimizeList() {
        List<Integer> kept = new ArrayList<>();
        for (int m : list) {
            boolean divided = kept.contains(m);
            for (int other : list) {
                divided |= other != m && divides(other, m);
            }
            if (!divided) {
                kept.add(m);
            }
        }
        list = kept;
        return list.size();
    }

    public int divideListBy(int v) {
        if (v < 0 || v > 6) {
            return BAD_ARGUMENT;
        }
        for (int i = 0; i < list.size(); i++) {
            int[] e = exponents(list.get(i));
            e[v] = Math.max(0, e[v] - 1);
            list.set(i, codeOf(e));
        }
        return minimizeList();
    }

    public int reverseList() {
        java.util.Collections.reverse(list);
        return list.size();
    }

    public int rotateList(int distance) {
        if (distance < 0 || distance > 24) {
            return BAD_ARGUMENT;
        }
        java.util.Collections.rotate(list, distance);
        return list.size();
    }

    public int swapElements(int i, int j) {
        if (i < 0 || i >= list.size() || j < 0 || j >= list.size()) {
            return NONE;
        }
        java.util.Collections.swap(list, i, j);
        return list.size();
    }

    public int indexOfDivisor(int m) {
        if (!code(m)) {
            return BAD_ARGUMENT;
        }
        for (int i = 0; i < list.size(); i++) {
            if (divides(list.get(i), m)) {
                return i;
            }
        }
        return NONE;
    }

    // The polarized variables, each as "v.k": the k-th of variable v.
    private List<String> polarizedNames() {
        List<String> names = new ArrayList<>();
        for (int v = 0; v < 7; v++) {
            for (int k = 1; k <= 3; k++) {
                for (int m : list) {
                    if (exponents(m)[v] >= k && !names.contains(v + "." + k)) {
                        names.add(v + "." + k);
                    }
                }
            }
        }
        return names;
    }

    public int polarizedVariableCount() {
        return polarizedNames().size();
    }

    public int polarized(int i) {
        if (i < 0 || i >= list.size()) {
            return i < 0 ? BAD_ARGUMENT : NONE;
        }
        int set = 0;
        for (int v = 0; v < 7; v++) {
            for (int k = 1; k <= exponents(list.get(i))[v]; k++) {
                set |= 1 << polarizedNames().indexOf(v + "." + k);
            }
        }
        return set;
    }

    public int hittingNumber() {
        if (list.contains(0)) {
            return NONE;
        }
        int smallest = 8;
        for (int set = 0; set < 128; set++) {
            boolean hits = true;
            for (int m : list) {
                boolean hit = false;
                for (int v = 0; v < 7; v++) {
                    hit |= (set >> v & 1) != 0 && exponents(m)[v] > 0;
                }
                hits &= hit;
            }
            if (hits) {
                smallest = Math.min(smallest, Integer.bitCount(set));
            }
        }
        return smallest;
    }

    public int feed(int b) {
        if (b < 0 || b > 255) {
            return BAD_ARGUMENT;
        }
        if (input.length() == 60) {
            return FULL;
        }
        input.append((char) b);
        return input.length();
    }

    public int discardInput() {
        int removed = input.length();
        input.setLength(0);
        return removed;
    }

    // The syntax as a regular expression; hitEnd tells whether a refused text could still have gone on.
    private static final String MONOMIAL = "(?:1|(?=[a-g])(?:a[23]?)?(?:b[23]?)?(?:c[23]?)?(?:d[23]?)?(?:e[23]?)?"
            + "(?:f[23]?)?(?:g[23]?)?)";
    private static final java.util.regex.Pattern VALID =
            java.util.regex.Pattern.compile(MONOMIAL + "(?:," + MONOMIAL + "){0,23}", java.util.regex.Pattern.DOTALL);

    public int parse() {
        String text = input.toString();
        input.setLength(0);
        for (int length = 0; length <= text.length(); length++) {
            if (!couldGoOn(text.substring(0, length))) {
                return -1000 - (length - 1);
            }
        }
        if (!VALID.matcher(text).matches()) {
            return -1000 - text.length();
        }
        list = new ArrayList<>();
        for (String monomial : text.split(",")) {
            int[] e = new int[7];
            for (int p = 0; p < monomial.length() && !monomial.equals("1"); p++) {
                char c = monomial.charAt(p);
                if (c >= 'a') {
                    e[c - 'a'] = 1;
                } else {
                    e[monomial.charAt(p - 1) - 'a'] = c - '0';
                }
            }
            list.add(codeOf(e));
        }
        return list.size();
    }

    // A text can be the beginning of a valid one just if it is valid or becomes valid by one letter or digit more.
    private static boolean couldGoOn(String text) {
        if (text.isEmpty() || VALID.matcher(text).matches()) {
            return true;
        }
        return VALID.matcher(text + "1").matches() || VALID.matcher(text + "g").matches();
    }

    private String formatted() {
        StringBuilder text = new StringBuilder();
        for (int m : list) {
            text.append(text.length() > 0 ? "," : "");
            text.append(m == 0 ? "1" : "");
            for (int v = 0; v < 7; v++) {
                int e = exponents(m)[v];
                text.append(e == 0 ? "" : "abcdefg".substring(v, v + 1) + (e == 1 ? "" : "" + e));
            }
        }
        return text.toString();
    }

    public int formattedLength() {
        return formatted().length();
    }

    public int formattedByte(int i) {
        return i < 0 ? BAD_ARGUMENT : i < formatted().length() ? formatted().charAt(i) : NONE;
    }

    private static boolean slot(int slot) {
        return 0 <= slot && slot < 4;
    }

    public int saveList(int slot) {
        if (!slot(slot)) {
            return BAD_ARGUMENT;
        }
        slots[slot] = new ArrayList<>(list);
        return list.size();
    }

    public int loadList(int slot) {
        if (!slot(slot)) {
            return BAD_ARGUMENT;
        }
        if (slots[slot] == null) {
            return -11;
        }
        if (slots[slot] instanceof int[]) {
            return -12;
        }
        list = new ArrayList<>();
        for (Object m : (List<?>) slots[slot]) {
            list.add((Integer) m);
        }
        return list.size();
    }

    public int clearSlot(int slot) {
        if (!slot(slot)) {
            return BAD_ARGUMENT;
        }
        Object content = slots[slot];
        slots[slot] = null;
        return content == null ? 0 : content instanceof int[] ? 2 : 1;
    }

    public int newArray(int slot, int length) {
        if (!slot(slot) || length > 30) {
            return BAD_ARGUMENT;
        }
        if (length < 0) {
            return -14;
        }
        slots[slot] = new int[length];
        return length;
    }

    private int arrayError(int slot) {
        return !slot(slot) ? BAD_ARGUMENT : slots[slot] == null ? -11 : slots[slot] instanceof int[] ? 0 : -12;
    }

    public int setArrayElement(int slot, int i, int value) {
        if (arrayError(slot) != 0) {
            return arrayError(slot);
        }
        int[] array = (int[]) slots[slot];
        if (i < 0 || i >= array.length) {
            return -13;
        }
        array[i] = value;
        return 1;
    }

    public long arrayElement(int slot, int i) {
        if (arrayError(slot) != 0) {
            return NO_VALUE;
        }
        int[] array = (int[]) slots[slot];
        return i < 0 || i >= array.length ? NO_VALUE : array[i];
    }

    public int firstMismatch(int slot, int s) {
        if (!slot(slot) || !power(s)) {
            return BAD_ARGUMENT;
        }
        if (arrayError(slot) != 0) {
            return arrayError(slot);
        }
        int[] generators = generators(false, s).stream().mapToInt(m -> m).toArray();
        int where = Arrays.mismatch((int[]) slots[slot], generators);
        return where < 0 ? NONE : where;
    }

    public int usedSlotCount() {
        return (int) Arrays.stream(slots).filter(content -> content != null).count();
    }

    public int changeCount() {
        return history.size();
    }

    public int inputLength() {
        return input.length();
    }

    public int takeSnapshot() {
        snapshotTaken = true;
        snapshotN = n;
        snapshotEdges = new ArrayList<>(edges);
        snapshotTests = new ArrayList<>(tests);
        snapshotList = new ArrayList<>(list);
        return n;
    }

    public int restoreSnapshot() {
        if (!snapshotTaken) {
            return NOT_POSSIBLE;
        }
        n = snapshotN;
        replaceEdges(snapshotEdges);
        tests = new ArrayList<>(snapshotTests);
        list = new ArrayList<>(snapshotList);
        history.clear();
        return n;
    }
}
