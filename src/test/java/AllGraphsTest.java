/** Asks about every graph of up to 5 vertices, and about some larger ones, all that depends on the graph alone. */
public final class AllGraphsTest {
    private static final int[] ORDERS = {1, 12, 21, 123, 132, 213, 231, 312, 321, 1234, 4321, 2413, 3142, 12345, 54321,
        24135, 31524, 123456, 246135, 7654321, 1357246};

    private static void lookAt(int n, int edges) {
        Pair pair = new Pair();
        pair.ask("setVertexCount", n);
        int bit = 0;
        for (int v = 1; v < n; v++) {
            for (int u = 0; u < v; u++) {
                if ((edges >> bit & 1) != 0) {
                    pair.ask("toggleEdge", v, u);
                }
                bit++;
            }
        }
        lookAtGraph(pair, n);
        for (int s = 1; s <= 3; s++) {
            lookAtPower(pair, s, n);
        }
        int step = n < 5 ? 1 : n == 5 ? 7 : 101;
        for (int m = 0; m < 1 << 2 * n; m += step) {
            pair.ask("powerOrder", m);
            pair.ask("symbolicOrder", m);
        }
    }

    private static void lookAtGraph(Pair pair, int n) {
        for (String name : new String[] {"edgeCount", "componentCount", "hasOddCycle", "matchingNumber", "coverCount",
            "height", "bigHeight"}) {
            pair.ask(name);
        }
        for (int i = 0; i <= 12; i++) {
            pair.ask("cover", i);
        }
        for (int complement = 0; complement <= 1; complement++) {
            pair.ask("isChordal", complement);
            pair.ask("eliminationLength", complement);
            for (int i = 0; i <= n; i++) {
                pair.ask("eliminated", complement, i);
            }
        }
    }

    private static void lookAtPower(Pair pair, int s, int n) {
        pair.ask("powersAgree", s);
        pair.ask("firstDifference", s);
        long count = pair.ask("generatorCount", s);
        for (int i = 0; i <= count; i++) {
            pair.ask("generator", s, i);
        }
        long symbolic = pair.ask("symbolicGeneratorCount", s);
        for (int i = 0; i <= symbolic; i++) {
            pair.ask("symbolicGenerator", s, i);
        }
        pair.ask("countInPower", s, 2 * s + 1);
        pair.ask("countInSymbolicPower", s, 2 * s);
        for (int order : ORDERS) {
            if (Integer.toString(order).length() == n) {
                pair.ask("firstNonLinearStep", s, order);
                pair.ask("bettiNumber", s, order, 1);
                for (int i = 0; i < count; i += n < 5 ? 1 : 5) {
                    pair.ask("orderedGenerator", s, order, i);
                    pair.ask("colonVariables", s, order, i);
                    pair.ask("isLinearStep", s, order, i);
                }
            }
        }
    }

    public static void main(String[] args) {
        for (int n = 1; n <= 4; n++) {
            for (int edges = 0; edges < 1 << n * (n - 1) / 2; edges++) {
                lookAt(n, edges);
            }
        }
        for (int edges = 0; edges < 1 << 10; edges++) {
            lookAt(5, edges);
        }
        for (int edges = 0; edges < 1 << 15; edges += 997) {
            lookAt(6, edges);
        }
        lookAt(6, (1 << 15) - 1);
        for (int edges = 12345; edges < 1 << 21; edges += 299993) {
            lookAt(7, edges);
        }
        lookAt(7, (1 << 21) - 1);
        Pair.finish();
    }
}
