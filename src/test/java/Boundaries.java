import java.util.Arrays;
import java.util.stream.Collectors;
import java.util.stream.IntStream;

/** What the boundary cases share. A case names its promise and quotes the words of the document that it looks at. */
abstract class Boundaries {
    interface Deed {
        void on(EdgeIdeals x);
    }

    interface Call {
        long on(EdgeIdeals x);
    }

    interface CallWith {
        long on(EdgeIdeals x, int argument);
    }

    static final int LOW = Integer.MIN_VALUE;
    static final int HIGH = Integer.MAX_VALUE;

    static final int BAD_ARGUMENT = -1;
    static final int NONE = -2;
    static final int FULL = -3;
    static final int NOT_POSSIBLE = -5;
    static final int EMPTY_SLOT = -11;
    static final int WRONG_KIND = -12;
    static final int INDEX_OUT_OF_RANGE = -13;
    static final int NEGATIVE_SIZE = -14;
    static final long NO_VALUE = Long.MIN_VALUE;

    // Variables as codes, so that products can be written as sums.
    static final int A = 1;
    static final int B = 4;
    static final int C = 16;
    static final int D = 64;
    static final int E = 256;
    static final int F = 1024;
    static final int G = 4096;

    private static int promise;
    private static String[] quotes;

    static void says(int number, String... words) {
        promise = number;
        quotes = words;
        for (String quote : words) {
            Check.dueTrue("promise " + number + " says: " + quote, Sentences.stands(number, quote));
        }
    }

    static void due(String what, long got, long want) {
        for (String quote : quotes) {
            Sentences.lookedAt(promise, quote, want);
        }
        Check.due(promise, what + " (" + String.join(" / ", quotes) + ")", got, want);
    }

    static void dueSame(String what, String got, String want) {
        due(what + ": " + got + ", due is " + want, got.equals(want) ? 1 : 0, 1);
    }

    static void dueList(String what, EdgeIdeals x, String want) {
        dueSame(what, listOf(x), want);
    }

    /** The call is refused with the answer that is due, and all that can be asked afterwards is as without the call. */
    static void refused(String what, Deed before, Call call, long want) {
        EdgeIdeals called = furnished();
        EdgeIdeals uncalled = furnished();
        before.on(called);
        before.on(uncalled);
        due(what, call.on(called), want);
        dueSame("the state after " + what, stateOf(called), stateOf(uncalled));
    }

    static void refused(String what, Call call, long want) {
        refused(what, x -> { }, call, want);
    }

    static void refusedEach(String what, Deed before, CallWith call, long want, int... arguments) {
        for (int argument : arguments) {
            refused(what + " with " + argument, before, x -> call.on(x, argument), want);
        }
    }

    static void refusedEach(String what, CallWith call, long want, int... arguments) {
        refusedEach(what, x -> { }, call, want, arguments);
    }

    static int[] outside(int lowest, int highest) {
        return new int[] {lowest - 1, highest + 1, LOW, HIGH};
    }

    static int[] tooGreat(int length) {
        return new int[] {length, length + 1, HIGH};
    }

    static int[] negative() {
        return new int[] {-1, LOW};
    }

    /** 5 vertices, 2 changes, 3 tests, 3 elements, a list in slot 0, an array in slot 1, 4 bytes and a snapshot. */
    static EdgeIdeals furnished() {
        EdgeIdeals x = new EdgeIdeals();
        x.setVertexCount(3);
        x.build(2);
        x.addExponentTest(0, 2);
        parsed(x, "abc,a2");
        x.takeSnapshot();
        x.setVertexCount(5);
        x.build(1);
        x.toggleEdge(0, 2);
        x.addPowerTest(2);
        x.addNotTest(1);
        parsed(x, "a2b,cg3,1");
        x.saveList(0);
        x.newArray(1, 5);
        x.setArrayElement(1, 2, -77);
        x.rotateList(1);
        feedAll(x, "a2,d");
        return x;
    }

    static EdgeIdeals graph(int vertices, int kind) {
        EdgeIdeals x = new EdgeIdeals();
        x.setVertexCount(vertices);
        x.build(kind);
        return x;
    }

    /** An edge is given by the numbers of its ends, as two digits. */
    static void addEdges(EdgeIdeals x, int... edges) {
        for (int edge : edges) {
            x.toggleEdge(edge / 10, edge % 10);
        }
    }

    static EdgeIdeals withEdges(int vertices, int... edges) {
        EdgeIdeals x = new EdgeIdeals();
        x.setVertexCount(vertices);
        addEdges(x, edges);
        return x;
    }

    static EdgeIdeals withList(String text) {
        EdgeIdeals x = new EdgeIdeals();
        parsed(x, text);
        return x;
    }

    static void feedAll(EdgeIdeals x, String text) {
        for (int p = 0; p < text.length(); p++) {
            x.feed(text.charAt(p));
        }
    }

    static int parsed(EdgeIdeals x, String text) {
        x.discardInput();
        feedAll(x, text);
        return x.parse();
    }

    static void fillList(EdgeIdeals x) {
        while (x.listSize() < 24) {
            x.append(x.listSize());
        }
    }

    static void fillTests(EdgeIdeals x) {
        while (x.testCount() < 8) {
            x.addDegreeTest(x.testCount());
        }
    }

    static void fillInput(EdgeIdeals x) {
        while (x.inputLength() < 60) {
            x.feed('a');
        }
    }

    static String codesOf(EdgeIdeals x) {
        return IntStream.range(0, x.listSize()).mapToObj(i -> "" + x.element(i)).collect(Collectors.joining(","));
    }

    static String listOf(EdgeIdeals x) {
        StringBuilder text = new StringBuilder();
        int length = x.formattedLength();
        for (int i = 0; i < length; i++) {
            text.append((char) x.formattedByte(i));
        }
        return text.toString();
    }

    static String edgesOf(EdgeIdeals x) {
        int[] neighbors = new int[x.vertexCount()];
        for (int v = 0; v < neighbors.length; v++) {
            neighbors[v] = x.neighbors(v);
        }
        return Arrays.toString(neighbors);
    }

    static String testsOf(EdgeIdeals x) {
        int[] counts = new int[x.testCount()];
        for (int test = 0; test < counts.length; test++) {
            counts[test] = x.passCount(test);
        }
        return Arrays.toString(counts);
    }

    static String arrayOf(EdgeIdeals x, int slot) {
        StringBuilder text = new StringBuilder();
        for (int i = 0; x.arrayElement(slot, i) != NO_VALUE; i++) {
            text.append(x.arrayElement(slot, i)).append(' ');
        }
        return text.toString();
    }

    /** All that can be asked about the object; it is taken apart for it. */
    static String stateOf(EdgeIdeals x) {
        StringBuilder state = new StringBuilder();
        state.append(" edges ").append(edgesOf(x)).append(" tests ").append(testsOf(x)).append(" list ")
                .append(codesOf(x)).append(" input ").append(x.inputLength()).append(" changes ");
        for (int left = x.changeCount(); left >= 0; left = x.revertChange()) {
            state.append(left).append(edgesOf(x));
        }
        state.append(" read ").append(x.parse()).append(':').append(codesOf(x)).append(" slots ");
        state.append(x.usedSlotCount());
        for (int slot = 0; slot < 4; slot++) {
            state.append(' ').append(arrayOf(x, slot)).append('/').append(x.loadList(slot)).append(':')
                    .append(codesOf(x)).append('/').append(x.clearSlot(slot));
        }
        state.append(" snapshot ").append(x.restoreSnapshot()).append(edgesOf(x)).append(testsOf(x))
                .append(codesOf(x));
        return state.toString();
    }
}
