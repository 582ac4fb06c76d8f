/** Edge ideals of small graphs: vertex covers, powers, linear quotients and polarization. */
public final class EdgeIdeals {
    public static final int BAD_ARGUMENT = -1;
    public static final int NONE = -2;
    public static final int FULL = -3;
    public static final int NOT_POSSIBLE = -5;
    public static final int EMPTY_SLOT = -11;
    public static final int WRONG_KIND = -12;
    public static final int INDEX_OUT_OF_RANGE = -13;
    public static final int NEGATIVE_SIZE = -14;
    public static final long NO_VALUE = Long.MIN_VALUE;

    private static final int MOST_VERTICES = 7;
    private static final int FIRST_VERTICES = 4;
    private static final int GREATEST_EXPONENT = 3;
    private static final int GREATEST_POWER = 3;
    private static final int GREATEST_DEGREE = MOST_VERTICES * GREATEST_EXPONENT;
    private static final int LIST_CAPACITY = 24;
    private static final int INPUT_CAPACITY = 60;
    private static final int SLOT_COUNT = 4;
    private static final int ARRAY_CAPACITY = 30;
    private static final int SYNTAX_ERROR = -1000;

    private final Graph graph;
    private final Ideal ideal;
    private final LinearQuotients quotients;
    private final ChangeHistory history;
    private final TestList tests;
    private final MonomialList list;
    private final Input input;
    private final Slot[] slots;
    private final Snapshot snapshot;

    public EdgeIdeals() {
        graph = new Graph();
        ideal = new Ideal(graph);
        quotients = new LinearQuotients(graph, ideal);
        history = new ChangeHistory();
        tests = new TestList();
        list = new MonomialList();
        input = new Input();
        slots = new Slot[SLOT_COUNT];
        for (int slot = 0; slot < SLOT_COUNT; slot++) {
            slots[slot] = new Slot();
        }
        snapshot = new Snapshot();
    }

    // The graph and its history.

    public int setVertexCount(int count) {
        if (count < 1 || count > MOST_VERTICES) {
            return BAD_ARGUMENT;
        }
        int previous = graph.vertices;
        replaceGraph(count, 0L);
        history.size = 0;
        return previous;
    }

    public int toggleEdge(int u, int v) {
        if (!isVertex(u) || !isVertex(v) || u == v) {
            return BAD_ARGUMENT;
        }
        recordChange(graph.matrix ^ Graph.edgeBits(u, v));
        return Graph.neighborsIn(graph.matrix, u) >> v & 1;
    }

    public int build(int kind) {
        if (kind < Graph.NO_EDGES || kind > Graph.COMPLEMENT) {
            return BAD_ARGUMENT;
        }
        if (kind == Graph.CYCLE && graph.vertices < 3) {
            return NOT_POSSIBLE;
        }
        recordChange(graph.matrixOfKind(kind));
        return graph.edgeTotal();
    }

    public int revertChange() {
        if (history.size == 0) {
            return NOT_POSSIBLE;
        }
        replaceGraph(graph.vertices, history.pop());
        return history.size;
    }

    public int changeCount() {
        return history.size;
    }

    private void recordChange(long matrix) {
        history.push(graph.matrix);
        replaceGraph(graph.vertices, matrix);
    }

    // Every change of the graph goes through here, so that nothing derived from the old graph survives.
    private void replaceGraph(int vertices, long matrix) {
        graph.vertices = vertices;
        graph.matrix = matrix;
        ideal.forget();
        quotients.forget();
    }

    // Questions about the graph.

    public int vertexCount() {
        return graph.vertices;
    }

    public int edgeCount() {
        return graph.edgeTotal();
    }

    public int neighbors(int v) {
        return isVertex(v) ? Graph.neighborsIn(graph.matrix, v) : BAD_ARGUMENT;
    }

    public int componentCount() {
        return graph.componentTotal();
    }

    public int hasOddCycle() {
        return graph.isBipartite() ? 0 : 1;
    }

    public int matchingNumber() {
        // A matching is a product of edges in which no vertex occurs twice.
        return ideal.powerOrderOf(Monomials.ONES & graph.greatestCode());
    }

    public int coverCount() {
        return ideal.minimalCovers().size;
    }

    public int cover(int i) {
        return itemOrError(ideal.minimalCovers(), i);
    }

    public int height() {
        return ideal.smallestCoverSize();
    }

    public int bigHeight() {
        return ideal.largestCoverSize();
    }

    public int eliminationLength(int complement) {
        return isFlag(complement) ? graph.elimination(complement).size : BAD_ARGUMENT;
    }

    public int eliminated(int complement, int i) {
        return isFlag(complement) ? itemOrError(graph.elimination(complement), i) : BAD_ARGUMENT;
    }

    public int isChordal(int complement) {
        if (!isFlag(complement)) {
            return BAD_ARGUMENT;
        }
        return graph.elimination(complement).size == graph.vertices ? 1 : 0;
    }

    // Monomials.

    public int degree(int m) {
        return isCode(m) ? Monomials.degreeOf(m) : BAD_ARGUMENT;
    }

    public int exponent(int m, int v) {
        return isCode(m) && isVertex(v) ? Monomials.exponentOf(m, v) : BAD_ARGUMENT;
    }

    public int powerOrder(int m) {
        return isCode(m) ? ideal.powerOrderOf(m) : BAD_ARGUMENT;
    }

    public int symbolicOrder(int m) {
        return isCode(m) ? ideal.symbolicOrderOf(m) : BAD_ARGUMENT;
    }

    public int multiply(int a, int b) {
        if (!isCode(a) || !isCode(b)) {
            return BAD_ARGUMENT;
        }
        return Monomials.divides(a, Monomials.GREATEST_CODE - b) ? a + b : FULL;
    }

    public int divide(int a, int b) {
        if (!isCode(a) || !isCode(b)) {
            return BAD_ARGUMENT;
        }
        return Monomials.divides(b, a) ? a - b : NOT_POSSIBLE;
    }

    public int lcm(int a, int b) {
        return isCode(a) && isCode(b) ? a + b - Monomials.commonDivisor(a, b) : BAD_ARGUMENT;
    }

    public int gcd(int a, int b) {
        return isCode(a) && isCode(b) ? Monomials.commonDivisor(a, b) : BAD_ARGUMENT;
    }

    // Powers.

    public int generatorCount(int s) {
        return isPower(s) ? ideal.generators(s).size : BAD_ARGUMENT;
    }

    public int generator(int s, int i) {
        return isPower(s) ? itemOrError(ideal.generators(s), i) : BAD_ARGUMENT;
    }

    public int symbolicGeneratorCount(int s) {
        return isPower(s) ? ideal.symbolicGenerators(s).size : BAD_ARGUMENT;
    }

    public int symbolicGenerator(int s, int i) {
        return isPower(s) ? itemOrError(ideal.symbolicGenerators(s), i) : BAD_ARGUMENT;
    }

    public int powersAgree(int s) {
        if (!isPower(s)) {
            return BAD_ARGUMENT;
        }
        return ideal.generators(s).mismatch(ideal.symbolicGenerators(s)) == NONE ? 1 : 0;
    }

    public int firstDifference(int s) {
        return isPower(s) ? ideal.lowestOnlySymbolic(s) : BAD_ARGUMENT;
    }

    public int countInPower(int s, int degree) {
        if (!isPower(s) || !isDegree(degree)) {
            return BAD_ARGUMENT;
        }
        int count = 0;
        int greatest = graph.greatestCode();
        for (int code = 0; code <= greatest; code++) {
            if (Monomials.degreeOf(code) == degree && ideal.powerOrderOf(code) >= s) {
                count++;
            }
        }
        return count;
    }

    public int countInSymbolicPower(int s, int degree) {
        if (!isPower(s) || !isDegree(degree)) {
            return BAD_ARGUMENT;
        }
        int count = 0;
        int greatest = graph.greatestCode();
        for (int code = 0; code <= greatest; code++) {
            if (Monomials.degreeOf(code) == degree && ideal.symbolicOrderOf(code) >= s) {
                count++;
            }
        }
        return count;
    }

    // Linear quotients.

    public int orderedGenerator(int s, int order, int i) {
        int error = stepError(s, order, i);
        return error != 0 ? error : quotients.ordered.items[i];
    }

    public int colonVariables(int s, int order, int i) {
        int error = stepError(s, order, i);
        return error != 0 ? error : Monomials.supportOf(quotients.colonUnits(i));
    }

    public int isLinearStep(int s, int order, int i) {
        int error = stepError(s, order, i);
        if (error != 0) {
            return error;
        }
        return quotients.isLinearAt(i) ? 1 : 0;
    }

    public int firstNonLinearStep(int s, int order) {
        if (!isPower(s) || !quotients.prepare(s, order)) {
            return BAD_ARGUMENT;
        }
        return quotients.firstNonLinear();
    }

    public long bettiNumber(int s, int order, int k) {
        if (!isPower(s) || k < 0 || k > MOST_VERTICES || !quotients.prepare(s, order)) {
            return NO_VALUE;
        }
        return quotients.firstNonLinear() == NONE ? quotients.bettiSum(k) : NO_VALUE;
    }

    private int stepError(int s, int order, int i) {
        if (!isPower(s) || i < 0 || !quotients.prepare(s, order)) {
            return BAD_ARGUMENT;
        }
        return i < quotients.ordered.size ? 0 : NONE;
    }

    // Tests.

    public int addDegreeTest(int degree) {
        return isDegree(degree) ? tests.add(TestList.DEGREE, degree, 0) : BAD_ARGUMENT;
    }

    public int addExponentTest(int v, int least) {
        if (!isVariable(v) || least < 0 || least > GREATEST_EXPONENT) {
            return BAD_ARGUMENT;
        }
        return tests.add(TestList.EXPONENT, v, least);
    }

    public int addSquareFreeTest() {
        return tests.add(TestList.SQUARE_FREE, 0, 0);
    }

    public int addPowerTest(int s) {
        return isPower(s) ? tests.add(TestList.POWER, s, 0) : BAD_ARGUMENT;
    }

    public int addSymbolicTest(int s) {
        return isPower(s) ? tests.add(TestList.SYMBOLIC, s, 0) : BAD_ARGUMENT;
    }

    public int addAndTest(int first, int second) {
        return isTest(first) && isTest(second) ? tests.add(TestList.AND, first, second) : BAD_ARGUMENT;
    }

    public int addOrTest(int first, int second) {
        return isTest(first) && isTest(second) ? tests.add(TestList.OR, first, second) : BAD_ARGUMENT;
    }

    public int addNotTest(int test) {
        return isTest(test) ? tests.add(TestList.NOT, test, test) : BAD_ARGUMENT;
    }

    public int testCount() {
        return tests.size;
    }

    public int passes(int test, int m) {
        if (!isTest(test) || !isCode(m)) {
            return BAD_ARGUMENT;
        }
        return tests.accepts(test, m, ideal) ? 1 : 0;
    }

    public int passCount(int test) {
        if (!isTest(test)) {
            return BAD_ARGUMENT;
        }
        int count = 0;
        int greatest = graph.greatestCode();
        for (int code = 0; code <= greatest; code++) {
            if (tests.accepts(test, code, ideal)) {
                count++;
            }
        }
        return count;
    }

    public int passing(int test, int i) {
        if (!isTest(test) || i < 0) {
            return BAD_ARGUMENT;
        }
        int before = 0;
        int greatest = graph.greatestCode();
        for (int code = 0; code <= greatest; code++) {
            if (tests.accepts(test, code, ideal)) {
                if (before == i) {
                    return code;
                }
                before++;
            }
        }
        return NONE;
    }

    // The list.

    public int append(int m) {
        if (!isCode(m)) {
            return BAD_ARGUMENT;
        }
        return list.row.add(m) ? list.row.size : FULL;
    }

    public int fillWithGenerators(int s) {
        return isPower(s) ? fillList(ideal.generators(s)) : BAD_ARGUMENT;
    }

    public int fillWithSymbolicGenerators(int s) {
        return isPower(s) ? fillList(ideal.symbolicGenerators(s)) : BAD_ARGUMENT;
    }

    public int listSize() {
        return list.row.size;
    }

    public int element(int i) {
        return itemOrError(list.row, i);
    }

    public int clearList() {
        int removed = list.row.size;
        list.row.size = 0;
        return removed;
    }

    public int minimizeList() {
        list.minimize();
        return list.row.size;
    }

    public int divideListBy(int v) {
        if (!isVariable(v)) {
            return BAD_ARGUMENT;
        }
        list.decreaseExponents(v);
        list.minimize();
        return list.row.size;
    }

    public int reverseList() {
        list.reverse();
        return list.row.size;
    }

    public int rotateList(int distance) {
        if (distance < 0 || distance > LIST_CAPACITY) {
            return BAD_ARGUMENT;
        }
        list.rotate(distance);
        return list.row.size;
    }

    public int swapElements(int i, int j) {
        if (!list.row.has(i) || !list.row.has(j)) {
            return NONE;
        }
        list.swap(i, j);
        return list.row.size;
    }

    public int indexOfDivisor(int m) {
        return isCode(m) ? list.firstDivisorOf(m) : BAD_ARGUMENT;
    }

    public int polarizedVariableCount() {
        return list.polarizedTotal();
    }

    public int polarized(int i) {
        if (i < 0) {
            return BAD_ARGUMENT;
        }
        return list.row.has(i) ? list.polarizationOf(i) : NONE;
    }

    public int hittingNumber() {
        return list.smallestHittingSize();
    }

    private int fillList(Row codes) {
        if (codes.size > LIST_CAPACITY) {
            return FULL;
        }
        list.row.copyFrom(codes);
        return list.row.size;
    }

    // Input and output.

    public int feed(int b) {
        if (b < 0 || b > 255) {
            return BAD_ARGUMENT;
        }
        return input.bytes.add(b) ? input.bytes.size : FULL;
    }

    public int discardInput() {
        int removed = input.bytes.size;
        input.bytes.size = 0;
        return removed;
    }

    public int inputLength() {
        return input.bytes.size;
    }

    public int parse() {
        int errorPosition = input.read();
        input.bytes.size = 0;
        if (errorPosition != NONE) {
            return SYNTAX_ERROR - errorPosition;
        }
        list.row.copyFrom(input.codes);
        return list.row.size;
    }

    public int formattedLength() {
        return list.formatted().size;
    }

    public int formattedByte(int i) {
        return itemOrError(list.formatted(), i);
    }

    // Slots.

    public int saveList(int slot) {
        if (!isSlot(slot)) {
            return BAD_ARGUMENT;
        }
        slots[slot].kind = Slot.LIST;
        slots[slot].row.copyFrom(list.row);
        return list.row.size;
    }

    public int loadList(int slot) {
        int error = slotError(slot, Slot.LIST);
        if (error != 0) {
            return error;
        }
        list.row.copyFrom(slots[slot].row);
        return list.row.size;
    }

    public int clearSlot(int slot) {
        if (!isSlot(slot)) {
            return BAD_ARGUMENT;
        }
        int kind = slots[slot].kind;
        slots[slot].kind = Slot.EMPTY;
        return kind;
    }

    public int newArray(int slot, int length) {
        if (!isSlot(slot) || length > ARRAY_CAPACITY) {
            return BAD_ARGUMENT;
        }
        if (length < 0) {
            return NEGATIVE_SIZE;
        }
        slots[slot].kind = Slot.ARRAY;
        slots[slot].row.fillWithZeros(length);
        return length;
    }

    public int setArrayElement(int slot, int i, int value) {
        int error = slotError(slot, Slot.ARRAY);
        if (error != 0) {
            return error;
        }
        if (!slots[slot].row.has(i)) {
            return INDEX_OUT_OF_RANGE;
        }
        slots[slot].row.items[i] = value;
        return 1;
    }

    public long arrayElement(int slot, int i) {
        if (slotError(slot, Slot.ARRAY) != 0 || !slots[slot].row.has(i)) {
            return NO_VALUE;
        }
        return slots[slot].row.items[i];
    }

    public int firstMismatch(int slot, int s) {
        if (!isPower(s)) {
            return BAD_ARGUMENT;
        }
        int error = slotError(slot, Slot.ARRAY);
        return error != 0 ? error : slots[slot].row.mismatch(ideal.generators(s));
    }

    public int usedSlotCount() {
        int used = 0;
        for (int slot = 0; slot < SLOT_COUNT; slot++) {
            if (slots[slot].kind != Slot.EMPTY) {
                used++;
            }
        }
        return used;
    }

    private int slotError(int slot, int kind) {
        if (!isSlot(slot)) {
            return BAD_ARGUMENT;
        }
        if (slots[slot].kind == Slot.EMPTY) {
            return EMPTY_SLOT;
        }
        return slots[slot].kind == kind ? 0 : WRONG_KIND;
    }

    // The snapshot.

    public int takeSnapshot() {
        snapshot.taken = true;
        snapshot.vertices = graph.vertices;
        snapshot.matrix = graph.matrix;
        snapshot.testTotal = tests.size;
        snapshot.list.copyFrom(list.row);
        return graph.vertices;
    }

    public int restoreSnapshot() {
        if (!snapshot.taken) {
            return NOT_POSSIBLE;
        }
        replaceGraph(snapshot.vertices, snapshot.matrix);
        tests.size = snapshot.testTotal;
        list.row.copyFrom(snapshot.list);
        history.size = 0;
        return graph.vertices;
    }

    // What arguments may be.

    private boolean isVertex(int v) {
        return v >= 0 && v < graph.vertices;
    }

    private boolean isCode(int m) {
        return m >= 0 && m <= graph.greatestCode();
    }

    private boolean isTest(int test) {
        return test >= 0 && test < tests.size;
    }

    private static boolean isVariable(int v) {
        return v >= 0 && v < MOST_VERTICES;
    }

    private static boolean isPower(int s) {
        return s >= 1 && s <= GREATEST_POWER;
    }

    private static boolean isDegree(int degree) {
        return degree >= 0 && degree <= GREATEST_DEGREE;
    }

    private static boolean isFlag(int complement) {
        return complement == 0 || complement == 1;
    }

    private static boolean isSlot(int slot) {
        return slot >= 0 && slot < SLOT_COUNT;
    }

    private static int itemOrError(Row row, int i) {
        if (i < 0) {
            return BAD_ARGUMENT;
        }
        return i < row.size ? row.items[i] : NONE;
    }

    /** Ints in a row that is made once and used again, because a run may not keep making arrays. */
    private static final class Row {
        final int[] items;
        int size;

        Row(int capacity) {
            items = new int[Math.max(capacity, 0)];
            size = 0;
        }

        boolean add(int item) {
            if (size >= items.length) {
                return false;
            }
            items[size] = item;
            size++;
            return true;
        }

        boolean has(int i) {
            return i >= 0 && i < size;
        }

        void copyFrom(Row other) {
            size = Math.min(other.size, items.length);
            System.arraycopy(other.items, 0, items, 0, size);
        }

        void fillWithZeros(int length) {
            size = Math.max(0, Math.min(length, items.length));
            for (int i = 0; i < size; i++) {
                items[i] = 0;
            }
        }

        int mismatch(Row other) {
            int shorter = Math.min(size, other.size);
            for (int i = 0; i < shorter; i++) {
                if (items[i] != other.items[i]) {
                    return i;
                }
            }
            return size == other.size ? NONE : shorter;
        }
    }

    /** Arithmetic of monomial codes. Two bits of a code are one exponent, so many rules are bit rules. */
    private static final class Monomials {
        static final int GREATEST_CODE = 0x3FFF;
        static final int CODE_COUNT = GREATEST_CODE + 1;
        // The low bit of every exponent; as a monomial, the product of all variables.
        static final int ONES = 0x1555;

        static int unit(int v) {
            return 1 << 2 * v;
        }

        static int exponentOf(int m, int v) {
            return m >> 2 * v & 3;
        }

        static int degreeOf(int m) {
            return Integer.bitCount(m) + Integer.bitCount(m >> 1 & ONES);
        }

        // Units of the variables with a greater exponent in a than in b. All exponents are compared at once, because
        // linear steps compare some hundred thousand pairs of monomials.
        static int exceeding(int a, int b) {
            int aHigh = a >> 1 & ONES;
            int bHigh = b >> 1 & ONES;
            int greaterHigh = aHigh & ~bHigh;
            int greaterLow = a & ~b & ~(aHigh ^ bHigh) & ONES;
            return greaterHigh | greaterLow;
        }

        static boolean divides(int a, int b) {
            return exceeding(a, b) == 0;
        }

        static int commonDivisor(int a, int b) {
            int fromB = GREATEST_EXPONENT * exceeding(a, b);
            return a & ~fromB | b & fromB;
        }

        static int supportOf(int m) {
            int set = 0;
            for (int v = 0; v < MOST_VERTICES; v++) {
                if (exponentOf(m, v) > 0) {
                    set |= 1 << v;
                }
            }
            return set;
        }

        // The monomial with the greatest exponent at each vertex of the set: as a mask it keeps just those exponents.
        static int maskOf(int set) {
            int mask = 0;
            for (int v = 0; v < MOST_VERTICES; v++) {
                mask |= (set >> v & 1) * GREATEST_EXPONENT * unit(v);
            }
            return mask;
        }
    }

    /** A graph as a symmetric matrix of bits: bit 7u + v and bit 7v + u are 1 if u and v are adjacent. */
    private static final class Graph {
        static final int NO_EDGES = 0;
        static final int CYCLE = 1;
        static final int PATH = 2;
        static final int ALL_EDGES = 3;
        static final int STAR = 4;
        static final int COMPLEMENT = 5;

        int vertices;
        long matrix;
        final Row removed;

        Graph() {
            vertices = FIRST_VERTICES;
            matrix = 0L;
            removed = new Row(MOST_VERTICES);
        }

        static long edgeBits(int u, int v) {
            return 1L << MOST_VERTICES * u + v | 1L << MOST_VERTICES * v + u;
        }

        static int neighborsIn(long edges, int v) {
            return (int) (edges >>> MOST_VERTICES * v) & (1 << MOST_VERTICES) - 1;
        }

        int allVertices() {
            return (1 << vertices) - 1;
        }

        int greatestCode() {
            return (1 << 2 * vertices) - 1;
        }

        int edgeTotal() {
            return Long.bitCount(matrix) / 2;
        }

        long matrixOfKind(int kind) {
            switch (kind) {
                case CYCLE:
                    return pathMatrix() | edgeBits(0, vertices - 1);
                case PATH:
                    return pathMatrix();
                case ALL_EDGES:
                    return completeMatrix();
                case STAR:
                    return starMatrix();
                case COMPLEMENT:
                    return completeMatrix() & ~matrix;
                default:
                    return 0L;
            }
        }

        long pathMatrix() {
            long edges = 0L;
            for (int v = 1; v < vertices; v++) {
                edges |= edgeBits(v - 1, v);
            }
            return edges;
        }

        long starMatrix() {
            long edges = 0L;
            for (int v = 1; v < vertices; v++) {
                edges |= edgeBits(0, v);
            }
            return edges;
        }

        long completeMatrix() {
            long edges = 0L;
            for (int v = 1; v < vertices; v++) {
                for (int u = 0; u < v; u++) {
                    edges |= edgeBits(u, v);
                }
            }
            return edges;
        }

        int componentTotal() {
            int unseen = allVertices();
            int total = 0;
            for (int v = 0; v < vertices; v++) {
                if ((unseen >> v & 1) != 0) {
                    total++;
                    unseen &= ~componentOf(v);
                }
            }
            return total;
        }

        int componentOf(int v) {
            int reached = 1 << v;
            for (int round = 1; round < vertices; round++) {
                int next = reached;
                for (int u = 0; u < vertices; u++) {
                    if ((reached >> u & 1) != 0) {
                        next |= neighborsIn(matrix, u);
                    }
                }
                reached = next;
            }
            return reached;
        }

        boolean isBipartite() {
            int all = allVertices();
            for (int side = 0; side <= all; side++) {
                if (isIndependent(side) && isIndependent(all & ~side)) {
                    return true;
                }
            }
            return false;
        }

        boolean isIndependent(int set) {
            for (int v = 0; v < vertices; v++) {
                if ((set >> v & 1) != 0 && (neighborsIn(matrix, v) & set) != 0) {
                    return false;
                }
            }
            return true;
        }

        // The cover must contain just those vertices that have an edge to a vertex outside of it: such an edge would
        // else be uncovered, and a vertex without one could be left out.
        boolean isMinimalCover(int set) {
            for (int v = 0; v < vertices; v++) {
                boolean inside = (set >> v & 1) != 0;
                boolean needed = (neighborsIn(matrix, v) & ~set) != 0;
                if (inside != needed) {
                    return false;
                }
            }
            return true;
        }

        Row elimination(int complement) {
            long edges = complement == 1 ? matrixOfKind(COMPLEMENT) : matrix;
            int remaining = allVertices();
            removed.size = 0;
            for (int step = 0; step < vertices; step++) {
                int v = firstSimplicial(edges, remaining);
                if (v == NONE) {
                    return removed;
                }
                removed.add(v);
                remaining &= ~(1 << v);
            }
            return removed;
        }

        int firstSimplicial(long edges, int remaining) {
            for (int v = 0; v < vertices; v++) {
                if ((remaining >> v & 1) != 0 && isClique(edges, neighborsIn(edges, v) & remaining)) {
                    return v;
                }
            }
            return NONE;
        }

        boolean isClique(long edges, int set) {
            for (int v = 0; v < vertices; v++) {
                if ((set >> v & 1) != 0 && (set & ~neighborsIn(edges, v)) != 1 << v) {
                    return false;
                }
            }
            return true;
        }
    }

    /** The powers of the edge ideal. What was found out about a graph is kept until the graph changes. */
    private static final class Ideal {
        // No two minimal covers contain one another, so there are at most 7 choose 3.
        static final int COVER_CAPACITY = 35;
        // So many codes have degree 6, the degree of a product of three edges.
        static final int GENERATOR_CAPACITY = 728;
        // So many codes have degree 10, and no set of codes in which none divides another is larger.
        static final int SYMBOLIC_CAPACITY = 2128;

        final Graph graph;
        final int[] orders;
        int knownOrders;
        final Row covers;
        final Row coverMasks;
        boolean coversKnown;
        final Row[] powerRows;
        final boolean[] powerKnown;
        final Row[] symbolicRows;
        final boolean[] symbolicKnown;

        Ideal(Graph graph) {
            this.graph = graph;
            orders = new int[Monomials.CODE_COUNT];
            covers = new Row(COVER_CAPACITY);
            coverMasks = new Row(COVER_CAPACITY);
            powerRows = new Row[GREATEST_POWER];
            powerKnown = new boolean[GREATEST_POWER];
            symbolicRows = new Row[GREATEST_POWER];
            symbolicKnown = new boolean[GREATEST_POWER];
            for (int k = 0; k < GREATEST_POWER; k++) {
                powerRows[k] = new Row(GENERATOR_CAPACITY);
                symbolicRows[k] = new Row(SYMBOLIC_CAPACITY);
            }
        }

        void forget() {
            knownOrders = 0;
            coversKnown = false;
            for (int k = 0; k < GREATEST_POWER; k++) {
                powerKnown[k] = false;
                symbolicKnown[k] = false;
            }
        }

        // Orders are found in ascending order of the codes, because each one is made from orders of lower codes.
        int powerOrderOf(int m) {
            for (int code = knownOrders; code <= m; code++) {
                orders[code] = orderFromLowerCodes(code);
            }
            knownOrders = Math.max(knownOrders, m + 1);
            return orders[m];
        }

        int orderFromLowerCodes(int code) {
            if (code == 0) {
                return 0;
            }
            int low = Integer.numberOfTrailingZeros(code) / 2;
            int rest = code - Monomials.unit(low);
            int partners = Graph.neighborsIn(graph.matrix, low);
            for (int u = low + 1; u < graph.vertices; u++) {
                if ((partners >> u & 1) != 0 && Monomials.exponentOf(rest, u) > 0
                        && orders[rest - Monomials.unit(u)] == orders[rest]) {
                    // One more variable makes room for at most one more edge, so this cannot be surpassed.
                    return orders[rest] + 1;
                }
            }
            return orders[rest];
        }

        Row minimalCovers() {
            if (!coversKnown) {
                covers.size = 0;
                coverMasks.size = 0;
                for (int set = 0; set <= graph.allVertices(); set++) {
                    if (graph.isMinimalCover(set)) {
                        covers.add(set);
                        coverMasks.add(Monomials.maskOf(set));
                    }
                }
                coversKnown = true;
            }
            return covers;
        }

        int smallestCoverSize() {
            int smallest = MOST_VERTICES;
            Row found = minimalCovers();
            for (int i = 0; i < found.size; i++) {
                smallest = Math.min(smallest, Integer.bitCount(found.items[i]));
            }
            return smallest;
        }

        int largestCoverSize() {
            int largest = 0;
            Row found = minimalCovers();
            for (int i = 0; i < found.size; i++) {
                largest = Math.max(largest, Integer.bitCount(found.items[i]));
            }
            return largest;
        }

        int symbolicOrderOf(int m) {
            int least = GREATEST_DEGREE;
            int count = minimalCovers().size;
            for (int i = 0; i < count; i++) {
                least = Math.min(least, Monomials.degreeOf(m & coverMasks.items[i]));
            }
            return least;
        }

        Row generators(int s) {
            Row row = powerRows[s - 1];
            if (!powerKnown[s - 1]) {
                row.size = 0;
                for (int code = graph.greatestCode(); code >= 0; code--) {
                    // Products of s edges all have degree 2s, so none of them divides another.
                    if (Monomials.degreeOf(code) == 2 * s && powerOrderOf(code) >= s) {
                        row.add(code);
                    }
                }
                powerKnown[s - 1] = true;
            }
            return row;
        }

        // Whether a monomial of degree 2s is a generator; the generators must have been listed, so its order is known.
        boolean isListedGenerator(int m, int s) {
            return m >= 0 && m < knownOrders && orders[m] >= s;
        }

        Row symbolicGenerators(int s) {
            Row row = symbolicRows[s - 1];
            if (!symbolicKnown[s - 1]) {
                row.size = 0;
                minimalCovers();
                for (int code = graph.greatestCode(); code >= 0; code--) {
                    if (isSymbolicGenerator(code, s)) {
                        row.add(code);
                    }
                }
                symbolicKnown[s - 1] = true;
            }
            return row;
        }

        // A monomial of the power is minimal if each of its variables is needed by a cover whose sum is just s. The
        // covers must be known.
        boolean isSymbolicGenerator(int m, int s) {
            int needed = 0;
            for (int i = 0; i < coverMasks.size; i++) {
                int sum = Monomials.degreeOf(m & coverMasks.items[i]);
                if (sum < s) {
                    return false;
                }
                if (sum == s) {
                    needed |= coverMasks.items[i];
                }
            }
            return (m & ~needed) == 0;
        }

        int lowestOnlySymbolic(int s) {
            Row row = symbolicGenerators(s);
            for (int i = row.size - 1; i >= 0; i--) {
                if (powerOrderOf(row.items[i]) < s) {
                    return row.items[i];
                }
            }
            return NONE;
        }
    }

    /** The generators of one power in one lexicographic order, and their colon variables and steps. */
    private static final class LinearQuotients {
        static final int NOTHING_READY = 0;

        final Graph graph;
        final Ideal ideal;
        final int[] sequence;
        final Row ordered;
        final Row spare;
        int readyPower;
        int readyOrder;

        LinearQuotients(Graph graph, Ideal ideal) {
            this.graph = graph;
            this.ideal = ideal;
            sequence = new int[MOST_VERTICES];
            ordered = new Row(Ideal.GENERATOR_CAPACITY);
            spare = new Row(Ideal.GENERATOR_CAPACITY);
            readyPower = NOTHING_READY;
        }

        void forget() {
            readyPower = NOTHING_READY;
        }

        boolean prepare(int s, int order) {
            if (readyPower == s && readyOrder == order) {
                return true;
            }
            readyPower = NOTHING_READY;
            if (!readSequence(order)) {
                return false;
            }
            ordered.copyFrom(ideal.generators(s));
            sortBySequence();
            readyPower = s;
            readyOrder = order;
            return true;
        }

        boolean readSequence(int order) {
            int rest = order;
            int seen = 0;
            for (int place = graph.vertices - 1; place >= 0; place--) {
                int v = rest % 10 - 1;
                if (v < 0 || v >= graph.vertices || (seen >> v & 1) != 0) {
                    return false;
                }
                seen |= 1 << v;
                sequence[place] = v;
                rest /= 10;
            }
            return rest == 0;
        }

        // A stable sort by each vertex, from the last one to the first one of the sequence.
        void sortBySequence() {
            for (int place = graph.vertices - 1; place >= 0; place--) {
                spare.size = 0;
                for (int exponent = GREATEST_EXPONENT; exponent >= 0; exponent--) {
                    moveToSpare(sequence[place], exponent);
                }
                ordered.copyFrom(spare);
            }
        }

        void moveToSpare(int v, int exponent) {
            for (int i = 0; i < ordered.size; i++) {
                if (Monomials.exponentOf(ordered.items[i], v) == exponent) {
                    spare.add(ordered.items[i]);
                }
            }
        }

        // All generators have the same degree. So an earlier one that exceeds g just by one v is g times v divided by
        // some u, and it is earlier because v comes before u in the sequence.
        int colonUnits(int i) {
            int units = 0;
            int g = ordered.items[i];
            for (int place = 0; place < graph.vertices; place++) {
                int v = sequence[place];
                if (Monomials.exponentOf(g, v) < GREATEST_EXPONENT && hasExchange(g, place)) {
                    units |= Monomials.unit(v);
                }
            }
            return units;
        }

        boolean hasExchange(int g, int place) {
            int raised = g + Monomials.unit(sequence[place]);
            for (int later = place + 1; later < graph.vertices; later++) {
                int u = sequence[later];
                if (Monomials.exponentOf(g, u) > 0
                        && ideal.isListedGenerator(raised - Monomials.unit(u), readyPower)) {
                    return true;
                }
            }
            return false;
        }

        boolean isLinearAt(int i) {
            int g = ordered.items[i];
            int units = colonUnits(i);
            for (int earlier = 0; earlier < i; earlier++) {
                if ((Monomials.exceeding(ordered.items[earlier], g) & units) == 0) {
                    return false;
                }
            }
            return true;
        }

        int firstNonLinear() {
            for (int i = 0; i < ordered.size; i++) {
                if (!isLinearAt(i)) {
                    return i;
                }
            }
            return NONE;
        }

        long bettiSum(int k) {
            long sum = 0L;
            for (int i = 0; i < ordered.size; i++) {
                sum += binomial(Integer.bitCount(colonUnits(i)), k);
            }
            return sum;
        }

        static int binomial(int size, int k) {
            int result = 1;
            for (int j = 1; j <= k; j++) {
                result = result * (size - j + 1) / j;
            }
            return result;
        }
    }

    /** The edges before each change that can still be reverted, the oldest first. */
    private static final class ChangeHistory {
        static final int CAPACITY = 12;

        final long[] matrices;
        int size;

        ChangeHistory() {
            matrices = new long[CAPACITY];
            size = 0;
        }

        void push(long matrix) {
            if (size == CAPACITY) {
                System.arraycopy(matrices, 1, matrices, 0, CAPACITY - 1);
                size = CAPACITY - 1;
            }
            matrices[size] = matrix;
            size++;
        }

        long pop() {
            if (size == 0) {
                return 0L;
            }
            size--;
            return matrices[size];
        }
    }

    /** The tests. A test names only tests with lower numbers, and these never change while it stands. */
    private static final class TestList {
        static final int DEGREE = 0;
        static final int EXPONENT = 1;
        static final int SQUARE_FREE = 2;
        static final int POWER = 3;
        static final int SYMBOLIC = 4;
        static final int AND = 5;
        static final int OR = 6;
        static final int NOT = 7;
        static final int CAPACITY = 8;

        final int[] kinds;
        final int[] firsts;
        final int[] seconds;
        // Which tests, as a bit set, the answer of a test is made from, itself among them.
        final int[] parts;
        int size;

        TestList() {
            kinds = new int[CAPACITY];
            firsts = new int[CAPACITY];
            seconds = new int[CAPACITY];
            parts = new int[CAPACITY];
            size = 0;
        }

        int add(int kind, int first, int second) {
            if (size == CAPACITY) {
                return FULL;
            }
            int number = size;
            kinds[number] = kind;
            firsts[number] = first;
            seconds[number] = second;
            parts[number] = 1 << number;
            if (kind == AND || kind == OR || kind == NOT) {
                parts[number] |= parts[first] | parts[second];
            }
            size++;
            return number;
        }

        // Lower tests are answered first and each one once, however often it is used.
        boolean accepts(int test, int m, Ideal ideal) {
            int accepted = 0;
            for (int t = 0; t <= test; t++) {
                if ((parts[test] >> t & 1) != 0 && holds(t, m, accepted, ideal)) {
                    accepted |= 1 << t;
                }
            }
            return (accepted >> test & 1) != 0;
        }

        boolean holds(int t, int m, int accepted, Ideal ideal) {
            int first = firsts[t];
            int second = seconds[t];
            switch (kinds[t]) {
                case DEGREE:
                    return Monomials.degreeOf(m) == first;
                case EXPONENT:
                    return Monomials.exponentOf(m, first) >= second;
                case SQUARE_FREE:
                    return (m & ~Monomials.ONES) == 0;
                case POWER:
                    return ideal.powerOrderOf(m) >= first;
                case SYMBOLIC:
                    return ideal.symbolicOrderOf(m) >= first;
                case AND:
                    return (accepted >> first & accepted >> second & 1) != 0;
                case OR:
                    return ((accepted >> first | accepted >> second) & 1) != 0;
                default:
                    return (accepted >> first & 1) == 0;
            }
        }
    }

    /** The list of monomials. Its operations look at all 7 variables, whatever the graph is. */
    private static final class MonomialList {
        // 24 monomials of 7 letters and 7 digits, and 23 commas.
        static final int TEXT_CAPACITY = 359;

        final Row row;
        final Row spare;
        final Row text;

        MonomialList() {
            row = new Row(LIST_CAPACITY);
            spare = new Row(LIST_CAPACITY);
            text = new Row(TEXT_CAPACITY);
        }

        void minimize() {
            spare.size = 0;
            for (int i = 0; i < row.size; i++) {
                if (!isSuperfluous(i)) {
                    spare.add(row.items[i]);
                }
            }
            row.copyFrom(spare);
        }

        boolean isSuperfluous(int i) {
            for (int j = 0; j < row.size; j++) {
                boolean decides = row.items[j] != row.items[i] || j < i;
                if (decides && Monomials.divides(row.items[j], row.items[i])) {
                    return true;
                }
            }
            return false;
        }

        void decreaseExponents(int v) {
            for (int i = 0; i < row.size; i++) {
                if (Monomials.exponentOf(row.items[i], v) > 0) {
                    row.items[i] -= Monomials.unit(v);
                }
            }
        }

        void reverse() {
            for (int i = 0; i < row.size / 2; i++) {
                swap(i, row.size - 1 - i);
            }
        }

        void swap(int i, int j) {
            int item = row.items[i];
            row.items[i] = row.items[j];
            row.items[j] = item;
        }

        void rotate(int distance) {
            if (row.size == 0) {
                return;
            }
            int staying = row.size - distance % row.size;
            spare.size = 0;
            for (int i = 0; i < row.size; i++) {
                spare.add(row.items[(staying + i) % row.size]);
            }
            row.copyFrom(spare);
        }

        int firstDivisorOf(int m) {
            for (int i = 0; i < row.size; i++) {
                if (Monomials.divides(row.items[i], m)) {
                    return i;
                }
            }
            return NONE;
        }

        int greatestExponentOf(int v) {
            int greatest = 0;
            for (int i = 0; i < row.size; i++) {
                greatest = Math.max(greatest, Monomials.exponentOf(row.items[i], v));
            }
            return greatest;
        }

        int polarizedTotal() {
            int total = 0;
            for (int v = 0; v < MOST_VERTICES; v++) {
                total += greatestExponentOf(v);
            }
            return total;
        }

        int polarizationOf(int i) {
            int set = 0;
            int before = 0;
            for (int v = 0; v < MOST_VERTICES; v++) {
                int ownVariables = (1 << Monomials.exponentOf(row.items[i], v)) - 1;
                set |= ownVariables << before;
                before += greatestExponentOf(v);
            }
            return set;
        }

        int smallestHittingSize() {
            int smallest = MOST_VERTICES + 1;
            for (int set = 0; set < 1 << MOST_VERTICES; set++) {
                if (Integer.bitCount(set) < smallest && hitsAll(Monomials.maskOf(set))) {
                    smallest = Integer.bitCount(set);
                }
            }
            // Only the monomial 1 is missed even by the set of all variables.
            return smallest > MOST_VERTICES ? NONE : smallest;
        }

        boolean hitsAll(int mask) {
            for (int i = 0; i < row.size; i++) {
                if ((row.items[i] & mask) == 0) {
                    return false;
                }
            }
            return true;
        }

        Row formatted() {
            text.size = 0;
            for (int i = 0; i < row.size; i++) {
                if (i > 0) {
                    text.add(',');
                }
                formatMonomial(row.items[i]);
            }
            return text;
        }

        void formatMonomial(int m) {
            if (m == 0) {
                text.add('1');
            }
            for (int v = 0; v < MOST_VERTICES; v++) {
                int exponent = Monomials.exponentOf(m, v);
                if (exponent > 0) {
                    text.add('a' + v);
                }
                if (exponent > 1) {
                    text.add('0' + exponent);
                }
            }
        }
    }

    /** The bytes of the input, and what has been read of them. */
    private static final class Input {
        static final int BEFORE_MONOMIAL = 0;
        static final int AFTER_ONE = 1;
        static final int AFTER_LETTER = 2;
        static final int AFTER_DIGIT = 3;

        final Row bytes;
        final Row codes;
        int state;
        int code;
        int lastVariable;

        Input() {
            bytes = new Row(INPUT_CAPACITY);
            codes = new Row(LIST_CAPACITY);
            state = BEFORE_MONOMIAL;
        }

        // Answers the error position, or NONE if the bytes were read into codes.
        int read() {
            codes.size = 0;
            state = BEFORE_MONOMIAL;
            for (int position = 0; position < bytes.size; position++) {
                if (!take(bytes.items[position])) {
                    return position;
                }
            }
            if (state == BEFORE_MONOMIAL) {
                return bytes.size;
            }
            codes.add(code);
            return NONE;
        }

        boolean take(int b) {
            if (b == ',') {
                return takeComma();
            }
            if (b == '1') {
                return takeOne();
            }
            if (b == '2' || b == '3') {
                return takeDigit(b - '0');
            }
            return b >= 'a' && b <= 'g' && takeLetter(b - 'a');
        }

        boolean takeComma() {
            // With the monomial that ends here the list would be full, so none could follow the comma.
            if (state == BEFORE_MONOMIAL || codes.size == LIST_CAPACITY - 1) {
                return false;
            }
            codes.add(code);
            state = BEFORE_MONOMIAL;
            return true;
        }

        boolean takeOne() {
            if (state != BEFORE_MONOMIAL) {
                return false;
            }
            code = 0;
            state = AFTER_ONE;
            return true;
        }

        boolean takeDigit(int exponent) {
            if (state != AFTER_LETTER) {
                return false;
            }
            code += (exponent - 1) * Monomials.unit(lastVariable);
            state = AFTER_DIGIT;
            return true;
        }

        boolean takeLetter(int variable) {
            if (state == BEFORE_MONOMIAL) {
                code = 0;
            } else if (state == AFTER_ONE || variable <= lastVariable) {
                return false;
            }
            code += Monomials.unit(variable);
            lastVariable = variable;
            state = AFTER_LETTER;
            return true;
        }
    }

    /** A slot; its kinds are numbered as clearSlot answers them. */
    private static final class Slot {
        static final int EMPTY = 0;
        static final int LIST = 1;
        static final int ARRAY = 2;

        int kind;
        final Row row;

        Slot() {
            kind = EMPTY;
            row = new Row(ARRAY_CAPACITY);
        }
    }

    /** The latest snapshot. Tests are only ever added after it, so their number tells which ones there were. */
    private static final class Snapshot {
        boolean taken;
        int vertices;
        long matrix;
        int testTotal;
        final Row list;

        Snapshot() {
            taken = false;
            list = new Row(LIST_CAPACITY);
        }
    }
}
