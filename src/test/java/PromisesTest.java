/** For each promise of the document: ordinary calls, the edges that the document names, and wrong arguments. */
public final class PromisesTest {
    private static final int LOW = Integer.MIN_VALUE;
    private static final int HIGH = Integer.MAX_VALUE;
    private static final long NO_VALUE = Long.MIN_VALUE;

    // Variables as codes, so that products can be written as sums.
    private static final int A = 1;
    private static final int B = 4;
    private static final int C = 16;
    private static final int D = 64;
    private static final int E = 256;
    private static final int F = 1024;
    private static final int G = 4096;

    private static void due(int promise, String call, long got, long want) {
        Check.due(promise, call, got, want);
    }

    private static EdgeIdeals graph(int vertices, int kind) {
        EdgeIdeals x = new EdgeIdeals();
        x.setVertexCount(vertices);
        x.build(kind);
        return x;
    }

    private static int feedAll(EdgeIdeals x, String text) {
        int length = x.inputLength();
        for (int p = 0; p < text.length(); p++) {
            length = x.feed(text.charAt(p));
        }
        return length;
    }

    private static int parsed(EdgeIdeals x, String text) {
        feedAll(x, text);
        return x.parse();
    }

    private static String formatted(EdgeIdeals x) {
        StringBuilder text = new StringBuilder();
        for (int i = 0; i < x.formattedLength(); i++) {
            text.append((char) x.formattedByte(i));
        }
        return text.toString();
    }

    private static void dueText(int promise, EdgeIdeals x, String want) {
        String got = formatted(x);
        due(promise, "the list " + got + " (due is " + want + ")", got.equals(want) ? 1 : 0, 1);
    }

    private static void newObject() {
        EdgeIdeals x = new EdgeIdeals();
        due(1, "vertexCount()", x.vertexCount(), 4);
        due(1, "edgeCount()", x.edgeCount(), 0);
        due(1, "listSize()", x.listSize(), 0);
        due(1, "testCount()", x.testCount(), 0);
        due(1, "usedSlotCount()", x.usedSlotCount(), 0);
        due(1, "changeCount()", x.changeCount(), 0);
        due(1, "inputLength()", x.inputLength(), 0);
        due(1, "restoreSnapshot()", x.restoreSnapshot(), -5);
        due(1, "NO_VALUE", EdgeIdeals.NO_VALUE, NO_VALUE);
    }

    private static void changingTheGraph() {
        EdgeIdeals x = new EdgeIdeals();
        x.build(3);
        x.append(255);
        x.addSquareFreeTest();
        x.newArray(1, 3);
        x.feed(97);
        for (int count : new int[] {0, 8, -1, LOW, HIGH}) {
            due(2, "setVertexCount(" + count + ")", x.setVertexCount(count), -1);
        }
        due(2, "edges after an error", x.edgeCount(), 6);
        due(2, "changes after an error", x.changeCount(), 1);
        due(2, "setVertexCount(4)", x.setVertexCount(4), 4);
        due(2, "edgeCount()", x.edgeCount(), 0);
        due(2, "changeCount()", x.changeCount(), 0);
        due(2, "setVertexCount(2)", x.setVertexCount(2), 4);
        due(2, "setVertexCount(7)", x.setVertexCount(7), 2);
        due(2, "setVertexCount(1)", x.setVertexCount(1), 7);
        due(2, "the list stays", x.element(0), 255);
        due(2, "the tests stay", x.testCount(), 1);
        due(2, "the slots stay", x.usedSlotCount(), 1);
        due(2, "the input stays", x.inputLength(), 1);

        x = new EdgeIdeals();
        due(3, "toggleEdge(3, 1)", x.toggleEdge(3, 1), 1);
        due(3, "neighbors(1)", x.neighbors(1), 8);
        due(3, "neighbors(3)", x.neighbors(3), 2);
        due(3, "toggleEdge(1, 3)", x.toggleEdge(1, 3), 0);
        due(3, "edgeCount()", x.edgeCount(), 0);
        due(3, "toggleEdge(2, 2)", x.toggleEdge(2, 2), -1);
        due(3, "toggleEdge(0, 4)", x.toggleEdge(0, 4), -1);
        due(3, "toggleEdge(-1, 0)", x.toggleEdge(-1, 0), -1);
        due(3, "toggleEdge(LOW, HIGH)", x.toggleEdge(LOW, HIGH), -1);
        due(3, "changeCount()", x.changeCount(), 2);
    }

    private static void building() {
        EdgeIdeals x = new EdgeIdeals();
        x.setVertexCount(7);
        due(4, "build(1)", x.build(1), 7);
        due(4, "neighbors(0)", x.neighbors(0), 66);
        due(4, "build(2)", x.build(2), 6);
        due(4, "neighbors(6)", x.neighbors(6), 32);
        due(4, "build(4)", x.build(4), 6);
        due(4, "neighbors(0)", x.neighbors(0), 126);
        due(4, "build(5)", x.build(5), 15);
        due(4, "neighbors(0)", x.neighbors(0), 0);
        due(4, "neighbors(6)", x.neighbors(6), 62);
        due(4, "build(3)", x.build(3), 21);
        due(4, "build(3)", x.build(3), 21);
        due(4, "build(0)", x.build(0), 0);
        due(4, "build(6)", x.build(6), -1);
        due(4, "build(-1)", x.build(-1), -1);
        due(4, "changeCount()", x.changeCount(), 7);
        x.setVertexCount(2);
        due(4, "build(1)", x.build(1), -5);
        due(4, "build(HIGH)", x.build(HIGH), -1);
        due(4, "build(4)", x.build(4), 1);
        x.setVertexCount(3);
        due(4, "build(1)", x.build(1), 3);
        x.setVertexCount(1);
        due(4, "build(1)", x.build(1), -5);
        due(4, "build(2)", x.build(2), 0);
        due(4, "build(5)", x.build(5), 0);
        due(4, "changeCount()", x.changeCount(), 2);
    }

    private static void reverting() {
        EdgeIdeals x = new EdgeIdeals();
        due(5, "revertChange()", x.revertChange(), -5);
        x.toggleEdge(0, 1);
        x.build(3);
        x.build(5);
        due(5, "revertChange()", x.revertChange(), 2);
        due(5, "edgeCount()", x.edgeCount(), 6);
        due(5, "revertChange()", x.revertChange(), 1);
        due(5, "neighbors(0)", x.neighbors(0), 2);
        x.toggleEdge(2, 3);
        due(5, "revertChange()", x.revertChange(), 1);
        due(5, "revertChange()", x.revertChange(), 0);
        due(5, "edgeCount()", x.edgeCount(), 0);
        x.setVertexCount(7);
        for (int v = 1; v < 7; v++) {
            x.toggleEdge(0, v);
            x.toggleEdge(1, v == 1 ? 2 : v == 2 ? 3 : v - 1 == 1 ? 4 : v);
        }
        due(80, "changeCount()", x.changeCount(), 12);
        x.build(3);
        x.build(0);
        due(80, "changeCount()", x.changeCount(), 12);
        due(5, "revertChange()", x.revertChange(), 11);
        due(5, "edgeCount()", x.edgeCount(), 21);
        for (int left = 10; left >= 0; left--) {
            due(5, "revertChange()", x.revertChange(), left);
        }
        due(5, "the two oldest changes stay", x.edgeCount(), 2);
        due(5, "revertChange()", x.revertChange(), -5);
        due(80, "changeCount()", x.changeCount(), 0);
    }

    private static void graphQuestions() {
        EdgeIdeals x = graph(6, 1);
        due(6, "vertexCount()", x.vertexCount(), 6);
        due(7, "edgeCount()", x.edgeCount(), 6);
        due(8, "neighbors(5)", x.neighbors(5), 17);
        due(8, "neighbors(6)", x.neighbors(6), -1);
        due(8, "neighbors(-1)", x.neighbors(-1), -1);
        due(8, "neighbors(LOW)", x.neighbors(LOW), -1);
        due(9, "componentCount()", x.componentCount(), 1);
        due(10, "hasOddCycle()", x.hasOddCycle(), 0);
        due(11, "matchingNumber()", x.matchingNumber(), 3);
        x.toggleEdge(0, 2);
        due(10, "hasOddCycle()", x.hasOddCycle(), 1);
        x = graph(7, 0);
        due(9, "componentCount()", x.componentCount(), 7);
        x.toggleEdge(0, 6);
        x.toggleEdge(6, 3);
        x.toggleEdge(1, 5);
        due(9, "componentCount()", x.componentCount(), 4);
        due(11, "matchingNumber()", x.matchingNumber(), 2);
        x.toggleEdge(0, 3);
        due(10, "a triangle beside an edge", x.hasOddCycle(), 1);
        due(7, "edgeCount()", x.edgeCount(), 4);
        due(11, "star", graph(7, 4).matchingNumber(), 1);
        due(11, "cycle of 7", graph(7, 1).matchingNumber(), 3);
        due(10, "cycle of 7", graph(7, 1).hasOddCycle(), 1);
        due(10, "star", graph(7, 4).hasOddCycle(), 0);
        due(11, "one vertex", graph(1, 3).matchingNumber(), 0);
        due(9, "one vertex", graph(1, 3).componentCount(), 1);
        due(6, "one vertex", graph(1, 3).vertexCount(), 1);
    }

    private static void vertexCovers() {
        EdgeIdeals x = graph(7, 4);
        due(12, "coverCount()", x.coverCount(), 2);
        due(13, "cover(0)", x.cover(0), 1);
        due(13, "cover(1)", x.cover(1), 126);
        due(13, "cover(2)", x.cover(2), -2);
        due(13, "cover(HIGH)", x.cover(HIGH), -2);
        due(13, "cover(-1)", x.cover(-1), -1);
        due(13, "cover(LOW)", x.cover(LOW), -1);
        due(14, "height()", x.height(), 1);
        due(15, "bigHeight()", x.bigHeight(), 6);
        // A star around the last vertex: the larger cover has the smaller bit set.
        x.build(0);
        for (int v = 0; v < 6; v++) {
            x.toggleEdge(6, v);
        }
        due(13, "star around 6", x.cover(0), 63);
        due(13, "star around 6", x.cover(1), 64);
        due(14, "star around 6", x.height(), 1);
        due(15, "star around 6", x.bigHeight(), 6);
        x.build(0);
        due(12, "without edges", x.coverCount(), 1);
        due(13, "without edges", x.cover(0), 0);
        due(14, "without edges", x.height(), 0);
        due(15, "without edges", x.bigHeight(), 0);
        // Path a-b-c-d: {b,c}, {a,c}, {b,d}; {a,c} = 5, {b,c} = 6, {b,d} = 10.
        x = graph(4, 2);
        due(12, "path of 4", x.coverCount(), 3);
        due(13, "path of 4", x.cover(0), 5);
        due(13, "path of 4", x.cover(1), 6);
        due(13, "path of 4", x.cover(2), 10);
        // A triangle beside a complete graph of 4 vertices has the most minimal covers: 3 times 4.
        x = graph(7, 0);
        for (int v = 0; v < 7; v++) {
            for (int u = 0; u < v; u++) {
                if (u < 3 == v < 3) {
                    x.toggleEdge(u, v);
                }
            }
        }
        due(12, "3 times 4 covers", x.coverCount(), 12);
        due(14, "3 times 4 covers", x.height(), 5);
        due(15, "3 times 4 covers", x.bigHeight(), 5);
        due(13, "3 times 4 covers", x.cover(11), 118);
    }

    private static void elimination() {
        EdgeIdeals x = graph(4, 2);
        due(16, "eliminationLength(0)", x.eliminationLength(0), 4);
        due(16, "eliminationLength(1)", x.eliminationLength(1), 4);
        due(16, "eliminationLength(2)", x.eliminationLength(2), -1);
        due(16, "eliminationLength(-1)", x.eliminationLength(-1), -1);
        due(17, "eliminated(0, 3)", x.eliminated(0, 3), 3);
        due(17, "eliminated(1, 0)", x.eliminated(1, 0), 1);
        due(17, "eliminated(1, 2)", x.eliminated(1, 2), 0);
        due(17, "eliminated(0, 4)", x.eliminated(0, 4), -2);
        due(17, "eliminated(0, -1)", x.eliminated(0, -1), -1);
        due(17, "eliminated(2, 9)", x.eliminated(2, 9), -1);
        due(17, "eliminated(0, HIGH)", x.eliminated(0, HIGH), -2);
        due(18, "isChordal(0)", x.isChordal(0), 1);
        due(18, "isChordal(1)", x.isChordal(1), 1);
        due(18, "isChordal(2)", x.isChordal(2), -1);
        due(18, "isChordal(LOW)", x.isChordal(LOW), -1);
        // A cycle of 4 with a tail: the tail goes, from its end on, the cycle stays.
        x = graph(6, 0);
        x.toggleEdge(1, 2);
        x.toggleEdge(2, 3);
        x.toggleEdge(3, 4);
        x.toggleEdge(4, 1);
        x.toggleEdge(1, 5);
        x.toggleEdge(5, 0);
        due(16, "cycle with a tail", x.eliminationLength(0), 2);
        due(17, "cycle with a tail", x.eliminated(0, 0), 0);
        due(17, "cycle with a tail", x.eliminated(0, 1), 5);
        due(17, "cycle with a tail", x.eliminated(0, 2), -2);
        due(18, "cycle with a tail", x.isChordal(0), 0);
        due(18, "cycle of 4", graph(4, 1).isChordal(0), 0);
        due(18, "two edges", graph(4, 1).isChordal(1), 1);
        due(16, "all edges", graph(7, 3).eliminationLength(0), 7);
        due(16, "no edges", graph(7, 3).eliminationLength(1), 7);
    }

    private static void monomials() {
        EdgeIdeals x = graph(3, 2);
        due(19, "degree(0)", x.degree(0), 0);
        due(19, "degree(63)", x.degree(63), 9);
        due(19, "degree(2A+B+3C)", x.degree(2 * A + B + 3 * C), 6);
        due(19, "degree(64)", x.degree(64), -1);
        due(19, "degree(-1)", x.degree(-1), -1);
        due(20, "exponent(3C+B, 2)", x.exponent(3 * C + B, 2), 3);
        due(20, "exponent(3C+B, 1)", x.exponent(3 * C + B, 1), 1);
        due(20, "exponent(3C+B, 0)", x.exponent(3 * C + B, 0), 0);
        due(20, "exponent(0, 3)", x.exponent(0, 3), -1);
        due(20, "exponent(0, -1)", x.exponent(0, -1), -1);
        due(20, "exponent(64, 0)", x.exponent(64, 0), -1);
        due(21, "powerOrder(2A+3B+C)", x.powerOrder(2 * A + 3 * B + C), 3);
        due(21, "powerOrder(3A+3C)", x.powerOrder(3 * A + 3 * C), 0);
        due(21, "powerOrder(64)", x.powerOrder(64), -1);
        due(21, "powerOrder(LOW)", x.powerOrder(LOW), -1);
        due(22, "symbolicOrder(2A+3B+C)", x.symbolicOrder(2 * A + 3 * B + C), 3);
        due(22, "symbolicOrder(3A+B)", x.symbolicOrder(3 * A + B), 1);
        due(22, "symbolicOrder(64)", x.symbolicOrder(64), -1);
        due(22, "symbolicOrder(-1)", x.symbolicOrder(-1), -1);
        x = graph(7, 3);
        due(19, "degree(16383)", x.degree(16383), 21);
        due(21, "powerOrder(16383)", x.powerOrder(16383), 10);
        due(22, "symbolicOrder(16383)", x.symbolicOrder(16383), 18);
        x = graph(3, 3);
        due(21, "powerOrder(A+B+C)", x.powerOrder(A + B + C), 1);
        due(22, "symbolicOrder(A+B+C)", x.symbolicOrder(A + B + C), 2);
        x.build(0);
        due(21, "without edges", x.powerOrder(63), 0);
        due(22, "without edges", x.symbolicOrder(63), 0);
    }

    private static void arithmetic() {
        EdgeIdeals x = graph(3, 0);
        due(23, "multiply(A+B, 2A+C)", x.multiply(A + B, 2 * A + C), 3 * A + B + C);
        due(23, "multiply(2B, 2B)", x.multiply(2 * B, 2 * B), -3);
        due(23, "multiply(3C, C)", x.multiply(3 * C, C), -3);
        due(23, "multiply(63, 0)", x.multiply(63, 0), 63);
        due(23, "multiply(63, 64)", x.multiply(63, 64), -1);
        due(23, "multiply(-1, 0)", x.multiply(-1, 0), -1);
        due(24, "divide(3A+B, A+B)", x.divide(3 * A + B, A + B), 2 * A);
        due(24, "divide(B, A)", x.divide(B, A), -5);
        due(24, "divide(3C, C+A)", x.divide(3 * C, C + A), -5);
        due(24, "divide(63, 63)", x.divide(63, 63), 0);
        due(24, "divide(64, 0)", x.divide(64, 0), -1);
        due(24, "divide(0, HIGH)", x.divide(0, HIGH), -1);
        due(25, "lcm(3A+B, 2B+C)", x.lcm(3 * A + B, 2 * B + C), 3 * A + 2 * B + C);
        due(25, "lcm(63, 42)", x.lcm(63, 42), 63);
        due(25, "lcm(0, 64)", x.lcm(0, 64), -1);
        due(25, "lcm(-1, 0)", x.lcm(-1, 0), -1);
        due(26, "gcd(3A+B, 2A+2B+C)", x.gcd(3 * A + B, 2 * A + 2 * B + C), 2 * A + B);
        due(26, "gcd(A+2C, 3B+C)", x.gcd(A + 2 * C, 3 * B + C), C);
        due(26, "gcd(64, 0)", x.gcd(64, 0), -1);
        due(26, "gcd(0, LOW)", x.gcd(0, LOW), -1);
    }

    private static void generators() {
        EdgeIdeals x = graph(4, 2);
        due(27, "generatorCount(1)", x.generatorCount(1), 3);
        due(27, "generatorCount(2)", x.generatorCount(2), 6);
        due(27, "generatorCount(3)", x.generatorCount(3), 10);
        due(27, "generatorCount(0)", x.generatorCount(0), -1);
        due(27, "generatorCount(4)", x.generatorCount(4), -1);
        due(28, "generator(1, 0)", x.generator(1, 0), C + D);
        due(28, "generator(1, 2)", x.generator(1, 2), A + B);
        due(28, "generator(1, 3)", x.generator(1, 3), -2);
        due(28, "generator(1, HIGH)", x.generator(1, HIGH), -2);
        due(28, "generator(1, -1)", x.generator(1, -1), -1);
        due(28, "generator(0, 0)", x.generator(0, 0), -1);
        due(28, "generator(3, 0)", x.generator(3, 0), 3 * C + 3 * D);
        due(28, "generator(2, 1)", x.generator(2, 1), D + 2 * C + B);
        due(28, "generator(2, 5)", x.generator(2, 5), 2 * A + 2 * B);
        due(28, "without edges", new EdgeIdeals().generator(2, 0), -2);
        due(27, "all edges of 7", graph(7, 3).generatorCount(3), 728);
        due(28, "all edges of 7", graph(7, 3).generator(3, 727), 3 * A + 3 * B);
        // The cycle of 4: ab * cd = bc * ad, so one of the ten products is not new.
        due(27, "cycle of 4", graph(4, 1).generatorCount(2), 9);
    }

    private static void symbolicGenerators() {
        // A triangle: the square has 6 generators, and abc is the only one of its symbolic square besides squares.
        EdgeIdeals x = graph(3, 3);
        due(27, "triangle", x.generatorCount(2), 6);
        due(29, "symbolicGeneratorCount(1)", x.symbolicGeneratorCount(1), 3);
        due(29, "symbolicGeneratorCount(2)", x.symbolicGeneratorCount(2), 4);
        due(29, "symbolicGeneratorCount(0)", x.symbolicGeneratorCount(0), -1);
        due(29, "symbolicGeneratorCount(4)", x.symbolicGeneratorCount(4), -1);
        due(30, "symbolicGenerator(2, 0)", x.symbolicGenerator(2, 0), 2 * C + 2 * B);
        due(30, "symbolicGenerator(2, 1)", x.symbolicGenerator(2, 1), 2 * C + 2 * A);
        due(30, "symbolicGenerator(2, 2)", x.symbolicGenerator(2, 2), A + B + C);
        due(30, "symbolicGenerator(2, 3)", x.symbolicGenerator(2, 3), 2 * A + 2 * B);
        due(30, "symbolicGenerator(2, 4)", x.symbolicGenerator(2, 4), -2);
        due(30, "symbolicGenerator(2, -1)", x.symbolicGenerator(2, -1), -1);
        due(30, "symbolicGenerator(4, 0)", x.symbolicGenerator(4, 0), -1);
        due(31, "powersAgree(1)", x.powersAgree(1), 1);
        due(31, "powersAgree(2)", x.powersAgree(2), 0);
        due(31, "powersAgree(0)", x.powersAgree(0), -1);
        due(31, "powersAgree(4)", x.powersAgree(4), -1);
        due(32, "firstDifference(1)", x.firstDifference(1), -2);
        due(32, "firstDifference(2)", x.firstDifference(2), A + B + C);
        due(32, "firstDifference(3)", x.firstDifference(3), 2 * A + 2 * B + C);
        due(32, "firstDifference(0)", x.firstDifference(0), -1);
        due(32, "firstDifference(HIGH)", x.firstDifference(HIGH), -1);
        x.build(0);
        due(29, "without edges", x.symbolicGeneratorCount(3), 0);
        due(31, "without edges", x.powersAgree(3), 1);
        due(32, "without edges", x.firstDifference(3), -2);
        due(31, "a graph without odd cycles", graph(6, 1).powersAgree(3), 1);
        // In the complete graph of 4 vertices abcd is such a generator too, but not the lowest one.
        due(32, "four vertices", graph(4, 3).firstDifference(3), 2 * A + 2 * B + C);
    }

    private static void countingInPowers() {
        EdgeIdeals x = graph(3, 3);
        due(33, "countInPower(1, 2)", x.countInPower(1, 2), 3);
        due(33, "countInPower(2, 3)", x.countInPower(2, 3), 0);
        due(33, "countInPower(2, 4)", x.countInPower(2, 4), 6);
        due(33, "countInPower(3, 9)", x.countInPower(3, 9), 1);
        due(33, "countInPower(3, 10)", x.countInPower(3, 10), 0);
        due(33, "countInPower(3, 21)", x.countInPower(3, 21), 0);
        due(33, "countInPower(3, 22)", x.countInPower(3, 22), -1);
        due(33, "countInPower(3, -1)", x.countInPower(3, -1), -1);
        due(33, "countInPower(0, 3)", x.countInPower(0, 3), -1);
        due(33, "countInPower(4, 3)", x.countInPower(4, 3), -1);
        due(34, "countInSymbolicPower(2, 3)", x.countInSymbolicPower(2, 3), 1);
        due(34, "countInSymbolicPower(2, 4)", x.countInSymbolicPower(2, 4), 6);
        due(34, "countInSymbolicPower(1, 0)", x.countInSymbolicPower(1, 0), 0);
        due(34, "countInSymbolicPower(1, 22)", x.countInSymbolicPower(1, 22), -1);
        due(34, "countInSymbolicPower(1, LOW)", x.countInSymbolicPower(1, LOW), -1);
        due(34, "countInSymbolicPower(4, 0)", x.countInSymbolicPower(4, 0), -1);
        due(33, "seven vertices", graph(7, 4).countInPower(3, 21), 1);
        due(34, "seven vertices", graph(7, 4).countInSymbolicPower(3, 21), 1);
    }

    private static void linearQuotients() {
        EdgeIdeals x = graph(4, 2);
        // ab, bc, cd: after c first come cd and bc, then ab.
        due(35, "orderedGenerator(1, 1234, 0)", x.orderedGenerator(1, 1234, 0), A + B);
        due(35, "orderedGenerator(1, 3214, 0)", x.orderedGenerator(1, 3214, 0), B + C);
        due(35, "orderedGenerator(1, 3214, 1)", x.orderedGenerator(1, 3214, 1), C + D);
        due(35, "orderedGenerator(1, 3214, 2)", x.orderedGenerator(1, 3214, 2), A + B);
        due(35, "orderedGenerator(1, 3214, 3)", x.orderedGenerator(1, 3214, 3), -2);
        due(35, "orderedGenerator(1, 3214, -1)", x.orderedGenerator(1, 3214, -1), -1);
        for (int order : new int[] {3215, 321, 32145, 3211, 0, -1234, 1230, 2345, LOW, HIGH, 11234, 51234}) {
            due(35, "orderedGenerator(1, " + order + ", 0)", x.orderedGenerator(1, order, 0), -1);
            due(36, "colonVariables(1, " + order + ", 9)", x.colonVariables(1, order, 9), -1);
            due(37, "isLinearStep(1, " + order + ", 0)", x.isLinearStep(1, order, 0), -1);
            due(38, "firstNonLinearStep(1, " + order + ")", x.firstNonLinearStep(1, order), -1);
            due(39, "bettiNumber(1, " + order + ", 0)", x.bettiNumber(1, order, 0), NO_VALUE);
        }
        due(35, "a good order after a bad one", x.orderedGenerator(1, 3214, 0), B + C);
        due(35, "orderedGenerator(0, 1234, 0)", x.orderedGenerator(0, 1234, 0), -1);
        due(35, "orderedGenerator(2, 4321, 0)", x.orderedGenerator(2, 4321, 0), 2 * C + 2 * D);
        due(36, "colonVariables(1, 3214, 0)", x.colonVariables(1, 3214, 0), 0);
        due(36, "colonVariables(1, 3214, 1)", x.colonVariables(1, 3214, 1), 2);
        due(36, "colonVariables(1, 3214, 2)", x.colonVariables(1, 3214, 2), 4);
        due(36, "colonVariables(1, 3214, 3)", x.colonVariables(1, 3214, 3), -2);
        due(36, "colonVariables(4, 3214, 0)", x.colonVariables(4, 3214, 0), -1);
        due(37, "isLinearStep(1, 3214, 0)", x.isLinearStep(1, 3214, 0), 1);
        due(37, "isLinearStep(1, 3214, 2)", x.isLinearStep(1, 3214, 2), 1);
        due(37, "isLinearStep(1, 3214, 3)", x.isLinearStep(1, 3214, 3), -2);
        due(37, "isLinearStep(1, 3214, LOW)", x.isLinearStep(1, 3214, LOW), -1);
        due(38, "firstNonLinearStep(1, 3214)", x.firstNonLinearStep(1, 3214), -2);
        // With a and d first the second generator is cd, and it shares no variable with ab.
        due(37, "isLinearStep(1, 1423, 1)", x.isLinearStep(1, 1423, 1), 0);
        due(38, "firstNonLinearStep(1, 1423)", x.firstNonLinearStep(1, 1423), 1);
        due(38, "firstNonLinearStep(4, 1423)", x.firstNonLinearStep(4, 1423), -1);
        due(39, "bettiNumber(1, 1423, 0)", x.bettiNumber(1, 1423, 0), NO_VALUE);
        due(38, "without edges", new EdgeIdeals().firstNonLinearStep(3, 1234), -2);
        due(38, "one vertex", graph(1, 0).firstNonLinearStep(1, 1), -2);
        due(35, "one vertex", graph(1, 0).orderedGenerator(1, 1, 0), -2);
        due(35, "one vertex", graph(1, 0).orderedGenerator(1, 2, 0), -1);
    }

    private static void orderedAfterOtherCalls() {
        EdgeIdeals x = graph(4, 2);
        due(36, "colonVariables(1, 3214, 2)", x.colonVariables(1, 3214, 2), 4);
        due(36, "colonVariables(1, 3211, 2)", x.colonVariables(1, 3211, 2), -1);
        due(36, "a good order after a bad one", x.colonVariables(1, 3214, 2), 4);
        due(35, "orderedGenerator(1, 0, 0)", x.orderedGenerator(1, 0, 0), -1);
        due(36, "vertex 0 among them", x.colonVariables(1, 1234, 1), 1);
        due(36, "another power", x.colonVariables(2, 1234, 1), 1);
        due(35, "orderedGenerator(1, 1234, 0)", x.orderedGenerator(1, 1234, 0), A + B);
        x.build(5);
        due(35, "after a change", x.orderedGenerator(1, 1234, 0), A + C);
        due(36, "after a change", x.colonVariables(1, 1234, 1), 4);
        x.revertChange();
        due(35, "after revertChange", x.orderedGenerator(1, 1234, 0), A + B);
        x.takeSnapshot();
        x.build(5);
        due(35, "after a change", x.orderedGenerator(1, 1234, 0), A + C);
        x.restoreSnapshot();
        due(35, "after restoreSnapshot", x.orderedGenerator(1, 1234, 0), A + B);
        x.setVertexCount(4);
        due(35, "after setVertexCount", x.orderedGenerator(1, 1234, 0), -2);
    }

    private static void bettiNumbers() {
        EdgeIdeals x = graph(7, 4);
        // a times (b, .., g): the resolution of six variables.
        long[] due = {6, 15, 20, 15, 6, 1, 0, 0};
        for (int k = 0; k <= 7; k++) {
            due(39, "bettiNumber(1, 1234567, " + k + ")", x.bettiNumber(1, 1234567, k), due[k]);
        }
        due(39, "bettiNumber(1, 1234567, 8)", x.bettiNumber(1, 1234567, 8), NO_VALUE);
        due(39, "bettiNumber(1, 1234567, -1)", x.bettiNumber(1, 1234567, -1), NO_VALUE);
        due(39, "bettiNumber(0, 1234567, 0)", x.bettiNumber(0, 1234567, 0), NO_VALUE);
        due(39, "bettiNumber(4, 1234567, 0)", x.bettiNumber(4, 1234567, 0), NO_VALUE);
        due(39, "bettiNumber(1, 7654321, 5)", x.bettiNumber(1, 7654321, 5), 1);
        due(39, "without edges", new EdgeIdeals().bettiNumber(1, 1234, 0), 0);
        x = graph(4, 2);
        due(39, "bettiNumber(1, 1234, 1)", x.bettiNumber(1, 1234, 1), 2);
        due(39, "bettiNumber(2, 1234, 1)", x.bettiNumber(2, 1234, 1), 6);
        due(39, "all edges of 7", graph(7, 3).bettiNumber(3, 1234567, 0), 728);
    }

    private static void simpleTests() {
        EdgeIdeals x = graph(2, 2);
        due(40, "addDegreeTest(3)", x.addDegreeTest(3), 0);
        due(40, "addDegreeTest(22)", x.addDegreeTest(22), -1);
        due(40, "addDegreeTest(-1)", x.addDegreeTest(-1), -1);
        due(40, "passCount(0)", x.passCount(0), 4);
        due(41, "addExponentTest(1, 2)", x.addExponentTest(1, 2), 1);
        due(41, "addExponentTest(7, 0)", x.addExponentTest(7, 0), -1);
        due(41, "addExponentTest(-1, 0)", x.addExponentTest(-1, 0), -1);
        due(41, "addExponentTest(0, 4)", x.addExponentTest(0, 4), -1);
        due(41, "addExponentTest(0, -1)", x.addExponentTest(0, -1), -1);
        due(41, "passes(1, 2B)", x.passes(1, 2 * B), 1);
        due(41, "passes(1, 3A+B)", x.passes(1, 3 * A + B), 0);
        due(41, "passCount(1)", x.passCount(1), 8);
        due(41, "addExponentTest(6, 1)", x.addExponentTest(6, 1), 2);
        due(41, "a vertex that does not exist", x.passCount(2), 0);
        due(42, "addSquareFreeTest()", x.addSquareFreeTest(), 3);
        due(51, "the monomial 1 passes", x.passing(3, 0), 0);
        due(42, "passCount(3)", x.passCount(3), 4);
        due(42, "passes(3, 2A)", x.passes(3, 2 * A), 0);
        due(42, "passes(3, 3B)", x.passes(3, 3 * B), 0);
        due(43, "addPowerTest(2)", x.addPowerTest(2), 4);
        due(43, "addPowerTest(0)", x.addPowerTest(0), -1);
        due(43, "addPowerTest(4)", x.addPowerTest(4), -1);
        due(43, "passCount(4)", x.passCount(4), 4);
        due(44, "addSymbolicTest(3)", x.addSymbolicTest(3), 5);
        due(41, "addExponentTest(6, 3)", x.addExponentTest(6, 3), 6);
        due(40, "addDegreeTest(21)", x.addDegreeTest(21), 7);
        due(44, "addSymbolicTest(0)", x.addSymbolicTest(0), -1);
        due(44, "addSymbolicTest(4)", x.addSymbolicTest(4), -1);
        due(44, "passCount(5)", x.passCount(5), 1);
        x.setVertexCount(7);
        due(41, "the vertex exists now", x.passes(2, G), 1);
        due(41, "the vertex exists now", x.passCount(6), 4096);
        due(40, "all exponents are 3", x.passing(7, 0), 16383);
        due(43, "the graph of the check", x.passCount(4), 0);
        due(44, "the graph of the check", x.passCount(5), 0);
        due(42, "the graph of the check", x.passCount(3), 128);
        x.setVertexCount(3);
        x.build(3);
        due(43, "passes(4, A+B+C)", x.passes(4, A + B + C), 0);
        due(44, "passes(5, 2A+2B+C)", x.passes(5, 2 * A + 2 * B + C), 1);
        due(44, "passes(5, 2A+B+C)", x.passes(5, 2 * A + B + C), 0);
    }

    private static void madeTests() {
        EdgeIdeals x = graph(2, 2);
        x.addExponentTest(0, 1);
        x.addExponentTest(1, 1);
        due(45, "addAndTest(0, 1)", x.addAndTest(0, 1), 2);
        due(45, "passCount(2)", x.passCount(2), 9);
        due(45, "addAndTest(0, 3)", x.addAndTest(0, 3), -1);
        due(45, "addAndTest(-1, 0)", x.addAndTest(-1, 0), -1);
        due(46, "addOrTest(0, 1)", x.addOrTest(0, 1), 3);
        due(46, "passCount(3)", x.passCount(3), 15);
        due(46, "addOrTest(4, 0)", x.addOrTest(4, 0), -1);
        due(46, "addOrTest(0, LOW)", x.addOrTest(0, LOW), -1);
        due(47, "addNotTest(2)", x.addNotTest(2), 4);
        due(47, "passCount(4)", x.passCount(4), 7);
        due(47, "addNotTest(5)", x.addNotTest(5), -1);
        due(47, "addNotTest(-1)", x.addNotTest(-1), -1);
        due(45, "addAndTest(4, 4)", x.addAndTest(4, 4), 5);
        due(46, "addOrTest(5, 5)", x.addOrTest(5, 5), 6);
        due(47, "addNotTest(6)", x.addNotTest(6), 7);
        due(47, "passCount(7)", x.passCount(7), 9);
        due(48, "testCount()", x.testCount(), 8);
        due(40, "addDegreeTest(0)", x.addDegreeTest(0), -3);
        due(40, "addDegreeTest(22)", x.addDegreeTest(22), -1);
        due(41, "addExponentTest(0, 0)", x.addExponentTest(0, 0), -3);
        due(41, "addExponentTest(0, 4)", x.addExponentTest(0, 4), -1);
        due(42, "addSquareFreeTest()", x.addSquareFreeTest(), -3);
        due(43, "addPowerTest(1)", x.addPowerTest(1), -3);
        due(43, "addPowerTest(4)", x.addPowerTest(4), -1);
        due(44, "addSymbolicTest(1)", x.addSymbolicTest(1), -3);
        due(44, "addSymbolicTest(4)", x.addSymbolicTest(4), -1);
        due(45, "addAndTest(7, 7)", x.addAndTest(7, 7), -3);
        due(45, "addAndTest(7, 8)", x.addAndTest(7, 8), -1);
        due(46, "addOrTest(7, 7)", x.addOrTest(7, 7), -3);
        due(46, "addOrTest(8, 7)", x.addOrTest(8, 7), -1);
        due(47, "addNotTest(7)", x.addNotTest(7), -3);
        due(47, "addNotTest(8)", x.addNotTest(8), -1);
        due(48, "testCount()", x.testCount(), 8);
    }

    private static void askingTests() {
        EdgeIdeals x = graph(3, 2);
        due(49, "passes(0, 0)", x.passes(0, 0), -1);
        due(50, "passCount(0)", x.passCount(0), -1);
        due(51, "passing(0, 0)", x.passing(0, 0), -1);
        x.addPowerTest(1);
        due(49, "passes(0, A+B)", x.passes(0, A + B), 1);
        due(49, "passes(0, A+C)", x.passes(0, A + C), 0);
        due(49, "passes(0, 64)", x.passes(0, 64), -1);
        due(49, "passes(0, -1)", x.passes(0, -1), -1);
        due(49, "passes(1, 0)", x.passes(1, 0), -1);
        due(49, "passes(-1, 0)", x.passes(-1, 0), -1);
        // b and one of a and c: 3 times (16 - 1).
        due(50, "passCount(0)", x.passCount(0), 45);
        due(50, "passCount(1)", x.passCount(1), -1);
        due(50, "passCount(LOW)", x.passCount(LOW), -1);
        due(51, "passing(0, 0)", x.passing(0, 0), A + B);
        due(51, "passing(0, 44)", x.passing(0, 44), 63);
        due(51, "passing(0, 45)", x.passing(0, 45), -2);
        due(51, "passing(0, HIGH)", x.passing(0, HIGH), -2);
        due(51, "passing(0, -1)", x.passing(0, -1), -1);
        due(51, "passing(1, 0)", x.passing(1, 0), -1);
        x.toggleEdge(0, 1);
        due(50, "after a change", x.passCount(0), 36);
        due(51, "after a change", x.passing(0, 0), B + C);
    }

    private static void listBasics() {
        EdgeIdeals x = graph(3, 2);
        due(52, "append(63)", x.append(63), 1);
        due(52, "append(0)", x.append(0), 2);
        due(52, "append(64)", x.append(64), -1);
        due(52, "append(-1)", x.append(-1), -1);
        due(55, "listSize()", x.listSize(), 2);
        due(56, "element(0)", x.element(0), 63);
        due(56, "element(1)", x.element(1), 0);
        due(56, "element(2)", x.element(2), -2);
        due(56, "element(HIGH)", x.element(HIGH), -2);
        due(56, "element(-1)", x.element(-1), -1);
        for (int size = 3; size <= 24; size++) {
            due(52, "append(5)", x.append(5), size);
        }
        due(52, "append(5)", x.append(5), -3);
        due(52, "append(64)", x.append(64), -1);
        due(55, "listSize()", x.listSize(), 24);
        due(57, "clearList()", x.clearList(), 24);
        due(57, "clearList()", x.clearList(), 0);
        due(55, "listSize()", x.listSize(), 0);
        due(53, "fillWithGenerators(2)", x.fillWithGenerators(2), 3);
        due(53, "element(0)", x.element(0), 2 * B + 2 * C);
        due(53, "element(2)", x.element(2), 2 * A + 2 * B);
        due(53, "fillWithGenerators(0)", x.fillWithGenerators(0), -1);
        due(53, "fillWithGenerators(4)", x.fillWithGenerators(4), -1);
        x.build(3);
        due(54, "fillWithSymbolicGenerators(2)", x.fillWithSymbolicGenerators(2), 4);
        due(54, "element(2)", x.element(2), A + B + C);
        due(54, "fillWithSymbolicGenerators(0)", x.fillWithSymbolicGenerators(0), -1);
        due(54, "fillWithSymbolicGenerators(LOW)", x.fillWithSymbolicGenerators(LOW), -1);
        x.setVertexCount(7);
        x.build(3);
        due(53, "fillWithGenerators(2)", x.fillWithGenerators(2), -3);
        due(54, "fillWithSymbolicGenerators(2)", x.fillWithSymbolicGenerators(2), -3);
        due(53, "fillWithGenerators(4)", x.fillWithGenerators(4), -1);
        due(53, "the list after an error", x.element(2), A + B + C);
        due(53, "fillWithGenerators(1)", x.fillWithGenerators(1), 21);
        x.setVertexCount(5);
        for (int edge : new int[] {1, 12, 13, 23, 4}) {
            x.toggleEdge(edge / 10, edge % 10);
        }
        due(54, "24 fit", x.fillWithSymbolicGenerators(3), 24);
        x.build(0);
        for (int edge : new int[] {1, 2, 12, 3, 13, 4, 14}) {
            x.toggleEdge(edge / 10, edge % 10);
        }
        due(53, "25 do not fit", x.fillWithGenerators(2), -3);
        due(53, "the list stays", x.listSize(), 24);
        x.build(0);
        due(53, "without edges", x.fillWithGenerators(1), 0);
        due(54, "without edges", x.fillWithSymbolicGenerators(1), 0);
    }

    private static void minimizing() {
        EdgeIdeals x = new EdgeIdeals();
        due(58, "an empty list", x.minimizeList(), 0);
        parsed(x, "a2b,bc,ab,bc,abg,d3,cd2,g,abc");
        due(58, "minimizeList()", x.minimizeList(), 5);
        dueText(58, x, "bc,ab,d3,cd2,g");
        parsed(x, "a,b,1,c,1");
        due(58, "minimizeList()", x.minimizeList(), 1);
        dueText(58, x, "1");
        parsed(x, "ag2,bg,c,g3");
        due(59, "divideListBy(6)", x.divideListBy(6), 4);
        dueText(59, x, "ag,b,c,g2");
        due(59, "divideListBy(6)", x.divideListBy(6), 4);
        dueText(59, x, "a,b,c,g");
        parsed(x, "ag2,bg,c,g3");
        due(59, "divideListBy(0)", x.divideListBy(0), 3);
        dueText(59, x, "g2,bg,c");
        due(59, "divideListBy(7)", x.divideListBy(7), -1);
        due(59, "divideListBy(-1)", x.divideListBy(-1), -1);
        dueText(59, x, "g2,bg,c");
        parsed(x, "a3b,a2");
        due(59, "divideListBy(0)", x.divideListBy(0), 1);
        dueText(59, x, "a");
        due(59, "divideListBy(0)", x.divideListBy(0), 1);
        dueText(59, x, "1");
        due(59, "divideListBy(0)", x.divideListBy(0), 1);
        x.clearList();
        due(59, "an empty list", x.divideListBy(6), 0);
    }

    private static void reordering() {
        EdgeIdeals x = new EdgeIdeals();
        due(60, "an empty list", x.reverseList(), 0);
        due(61, "an empty list", x.rotateList(24), 0);
        due(61, "rotateList(25)", x.rotateList(25), -1);
        due(62, "an empty list", x.swapElements(0, 0), -2);
        parsed(x, "a,b,c,d,e");
        due(60, "reverseList()", x.reverseList(), 5);
        dueText(60, x, "e,d,c,b,a");
        due(61, "rotateList(2)", x.rotateList(2), 5);
        dueText(61, x, "b,a,e,d,c");
        due(61, "rotateList(0)", x.rotateList(0), 5);
        due(61, "rotateList(5)", x.rotateList(5), 5);
        dueText(61, x, "b,a,e,d,c");
        due(61, "rotateList(24)", x.rotateList(24), 5);
        dueText(61, x, "a,e,d,c,b");
        due(61, "rotateList(-1)", x.rotateList(-1), -1);
        due(62, "swapElements(0, 4)", x.swapElements(0, 4), 5);
        due(62, "swapElements(2, 2)", x.swapElements(2, 2), 5);
        dueText(62, x, "b,e,d,c,a");
        due(62, "swapElements(5, 0)", x.swapElements(5, 0), -2);
        due(62, "swapElements(0, -1)", x.swapElements(0, -1), -2);
        due(62, "swapElements(LOW, HIGH)", x.swapElements(LOW, HIGH), -2);
        dueText(62, x, "b,e,d,c,a");
    }

    private static void fullList() {
        EdgeIdeals x = new EdgeIdeals();
        x.setVertexCount(7);
        for (int i = 0; i < 24; i++) {
            x.append(i < 12 ? F + (i % 4) * A : G + (i % 4) * A);
        }
        due(60, "24 elements", x.reverseList(), 24);
        due(60, "24 elements", x.element(0), G + 3 * A);
        due(61, "24 elements", x.rotateList(23), 24);
        due(61, "24 elements", x.element(23), G + 3 * A);
        due(61, "24 elements", x.rotateList(24), 24);
        due(61, "24 elements", x.element(0), G + 2 * A);
        due(62, "24 elements", x.swapElements(0, 23), 24);
        due(63, "24 elements", x.indexOfDivisor(B), -2);
        due(64, "24 elements", x.polarizedVariableCount(), 5);
        due(65, "24 elements", x.polarized(23), 19);
        due(66, "24 elements", x.hittingNumber(), 2);
        due(72, "24 elements", x.saveList(0), 24);
        due(59, "24 elements", x.divideListBy(0), 2);
        dueText(59, x, "g,f");
        due(73, "24 elements", x.loadList(0), 24);
        due(58, "24 elements", x.minimizeList(), 2);
        dueText(58, x, "g,f");
    }

    private static void divisorsAndPolarization() {
        EdgeIdeals x = new EdgeIdeals();
        due(63, "an empty list", x.indexOfDivisor(255), -2);
        due(64, "an empty list", x.polarizedVariableCount(), 0);
        due(65, "an empty list", x.polarized(0), -2);
        due(66, "an empty list", x.hittingNumber(), 0);
        parsed(x, "ag,a2b,b,1");
        due(63, "indexOfDivisor(2A+B)", x.indexOfDivisor(2 * A + B), 1);
        due(63, "indexOfDivisor(A+B)", x.indexOfDivisor(A + B), 2);
        due(63, "indexOfDivisor(0)", x.indexOfDivisor(0), 3);
        due(63, "indexOfDivisor(256)", x.indexOfDivisor(256), -1);
        due(63, "indexOfDivisor(-1)", x.indexOfDivisor(-1), -1);
        due(64, "polarizedVariableCount()", x.polarizedVariableCount(), 4);
        due(65, "polarized(0)", x.polarized(0), 9);
        due(65, "polarized(1)", x.polarized(1), 7);
        due(65, "polarized(2)", x.polarized(2), 4);
        due(65, "polarized(3)", x.polarized(3), 0);
        due(65, "polarized(4)", x.polarized(4), -2);
        due(65, "polarized(-1)", x.polarized(-1), -1);
        due(66, "a list with 1", x.hittingNumber(), -2);
        parsed(x, "a3b3c3d3e3f3g3");
        due(64, "polarizedVariableCount()", x.polarizedVariableCount(), 21);
        due(65, "polarized(0)", x.polarized(0), (1 << 21) - 1);
        due(66, "one element", x.hittingNumber(), 1);
        parsed(x, "a,b,c,d,e,f,g");
        due(66, "seven variables", x.hittingNumber(), 7);
        parsed(x, "a2b,bc3,cd,de,ae3");
        due(66, "a cycle of five", x.hittingNumber(), 3);
        x.clearList();
        x.append(A);
        due(63, "no divisor", x.indexOfDivisor(0), -2);
    }

    private static void input() {
        EdgeIdeals x = new EdgeIdeals();
        due(67, "feed(256)", x.feed(256), -1);
        due(67, "feed(-1)", x.feed(-1), -1);
        due(67, "feed(255)", x.feed(255), 1);
        due(67, "feed(0)", x.feed(0), 2);
        due(81, "inputLength()", x.inputLength(), 2);
        due(68, "discardInput()", x.discardInput(), 2);
        due(68, "discardInput()", x.discardInput(), 0);
        due(81, "inputLength()", x.inputLength(), 0);
        for (int length = 1; length <= 60; length++) {
            due(67, "feed(97)", x.feed(97), length);
        }
        due(67, "feed(97)", x.feed(97), -3);
        due(67, "feed(256)", x.feed(256), -1);
        due(81, "inputLength()", x.inputLength(), 60);
        due(69, "parse()", x.parse(), -1001);
        due(81, "the input after an error", x.inputLength(), 0);
        x.feed(98);
        due(69, "parse()", x.parse(), 1);
        due(81, "the input after parse", x.inputLength(), 0);
        dueText(69, x, "b");
    }

    private static void parsing() {
        EdgeIdeals x = new EdgeIdeals();
        x.append(7);
        String[] wrong = {"", "0", "2", "h", "`", " a", "A", ",", ",a", "a,", "a,,b", "aa", "ba", "a1", "a0", "a4",
            "a22", "a23b", "1a", "11", "1,1,", "12", "a b", "ab,ba", "a,b,2", "g3g", "gh", "a2,h", "1,b2a"};
        int[] where = {0, 0, 0, 0, 0, 0, 0, 0, 0, 2, 2, 1, 1, 1, 1, 1, 2, 2, 1, 1, 4, 1, 1, 4, 4, 2, 1, 3, 4};
        for (int k = 0; k < wrong.length; k++) {
            due(69, "parse of '" + wrong[k] + "'", parsed(x, wrong[k]), -1000 - where[k]);
            due(69, "the input is empty", x.inputLength(), 0);
        }
        due(69, "the list stays", x.element(0), 7);
        due(69, "one element", x.listSize(), 1);
        due(69, "parse", parsed(x, "a3b2cd,1,g3,a,ag"), 5);
        due(69, "a3b2cd", x.element(0), 3 * A + 2 * B + C + D);
        due(69, "1", x.element(1), 0);
        due(69, "g3", x.element(2), 3 * G);
        due(69, "ag", x.element(4), A + G);
        due(69, "all", parsed(x, "a3b3c3d3e3f3g3,abcdefg,e2f2"), 3);
        due(69, "all", x.element(0), 16383);
        due(69, "all", x.element(1), A + B + C + D + E + F + G);
        due(69, "all", x.element(2), 2 * E + 2 * F);
        due(69, "the 60th byte is a comma", parsed(x, "1" + ",b2".repeat(18) + ",1,1,"), -1060);
        String ones = "1" + ",1".repeat(23);
        due(69, "24 monomials", parsed(x, ones), 24);
        due(69, "a 25th monomial", parsed(x, ones + ",1"), -1047);
        due(69, "only the comma of a 25th monomial", parsed(x, ones + ","), -1047);
        due(69, "another error", parsed(x, ones + "1"), -1047);
        due(69, "an error before it", parsed(x, "b1" + ones), -1001);
        due(69, "the list stays", x.listSize(), 24);
        x.setVertexCount(1);
        due(69, "letters of vertices that do not exist", parsed(x, "bg"), 1);
    }

    private static void formatting() {
        EdgeIdeals x = new EdgeIdeals();
        due(70, "an empty list", x.formattedLength(), 0);
        due(71, "an empty list", x.formattedByte(0), -2);
        due(71, "formattedByte(-1)", x.formattedByte(-1), -1);
        String text = "a3b2cd,1,g,ag2";
        parsed(x, text);
        due(70, text, x.formattedLength(), text.length());
        for (int p = 0; p < text.length(); p++) {
            due(71, "byte " + p + " of " + text, x.formattedByte(p), text.charAt(p));
        }
        due(71, "after the end", x.formattedByte(text.length()), -2);
        due(71, "formattedByte(HIGH)", x.formattedByte(HIGH), -2);
        due(71, "formattedByte(LOW)", x.formattedByte(LOW), -1);
        x.clearList();
        x.setVertexCount(7);
        for (int i = 0; i < 24; i++) {
            x.append(16383 - (i % 2));
        }
        due(70, "the longest", x.formattedLength(), 359);
        due(71, "the longest", x.formattedByte(358), '3');
        due(71, "the longest", x.formattedByte(359), -2);
        x.setVertexCount(1);
        due(70, "the vertices do not matter", x.formattedLength(), 359);
    }

    private static void listSlots() {
        EdgeIdeals x = new EdgeIdeals();
        due(72, "an empty list", x.saveList(3), 0);
        due(73, "loadList(0)", x.loadList(0), -11);
        due(73, "loadList(4)", x.loadList(4), -1);
        due(73, "loadList(-1)", x.loadList(-1), -1);
        due(72, "saveList(4)", x.saveList(4), -1);
        due(72, "saveList(-1)", x.saveList(-1), -1);
        parsed(x, "ab,bg,c3");
        due(72, "saveList(0)", x.saveList(0), 3);
        due(79, "usedSlotCount()", x.usedSlotCount(), 2);
        x.divideListBy(1);
        dueText(72, x, "a,g,c3");
        due(73, "loadList(0)", x.loadList(0), 3);
        dueText(73, x, "ab,bg,c3");
        x.clearList();
        due(73, "loadList(0)", x.loadList(0), 3);
        dueText(73, x, "ab,bg,c3");
        due(73, "loadList(3)", x.loadList(3), 0);
        due(73, "listSize()", x.listSize(), 0);
        x.newArray(0, 2);
        due(73, "loadList of an array", x.loadList(0), -12);
        due(74, "clearSlot(0)", x.clearSlot(0), 2);
        due(74, "clearSlot(0)", x.clearSlot(0), 0);
        due(74, "clearSlot(3)", x.clearSlot(3), 1);
        due(74, "clearSlot(4)", x.clearSlot(4), -1);
        due(74, "clearSlot(LOW)", x.clearSlot(LOW), -1);
        due(79, "usedSlotCount()", x.usedSlotCount(), 0);
    }

    private static void arraySlots() {
        EdgeIdeals x = new EdgeIdeals();
        due(75, "newArray(0, 30)", x.newArray(0, 30), 30);
        due(75, "newArray(0, 31)", x.newArray(0, 31), -1);
        due(75, "newArray(0, -1)", x.newArray(0, -1), -14);
        due(75, "newArray(4, -1)", x.newArray(4, -1), -1);
        due(75, "newArray(-1, 3)", x.newArray(-1, 3), -1);
        due(75, "newArray(0, LOW)", x.newArray(0, LOW), -14);
        due(75, "newArray(0, HIGH)", x.newArray(0, HIGH), -1);
        due(76, "setArrayElement(0, 29, LOW)", x.setArrayElement(0, 29, LOW), 1);
        due(76, "setArrayElement(0, 30, 1)", x.setArrayElement(0, 30, 1), -13);
        due(76, "setArrayElement(0, -1, 1)", x.setArrayElement(0, -1, 1), -13);
        due(76, "setArrayElement(1, 0, 1)", x.setArrayElement(1, 0, 1), -11);
        due(76, "setArrayElement(4, 0, 1)", x.setArrayElement(4, 0, 1), -1);
        due(77, "arrayElement(0, 29)", x.arrayElement(0, 29), LOW);
        due(77, "arrayElement(0, 28)", x.arrayElement(0, 28), 0);
        due(77, "arrayElement(0, 30)", x.arrayElement(0, 30), NO_VALUE);
        due(77, "arrayElement(0, -1)", x.arrayElement(0, -1), NO_VALUE);
        due(77, "arrayElement(1, 0)", x.arrayElement(1, 0), NO_VALUE);
        due(77, "arrayElement(-1, 0)", x.arrayElement(-1, 0), NO_VALUE);
        due(77, "arrayElement(4, 0)", x.arrayElement(4, 0), NO_VALUE);
        due(75, "a new array in its place", x.newArray(0, 30), 30);
        due(75, "all 0", x.arrayElement(0, 29), 0);
        due(75, "newArray(2, 0)", x.newArray(2, 0), 0);
        due(76, "an array of length 0", x.setArrayElement(2, 0, 1), -13);
        due(77, "an array of length 0", x.arrayElement(2, 0), NO_VALUE);
        due(79, "usedSlotCount()", x.usedSlotCount(), 2);
        x.append(5);
        x.saveList(0);
        due(76, "a list", x.setArrayElement(0, 0, 1), -12);
        due(77, "a list", x.arrayElement(0, 0), NO_VALUE);
        x.newArray(0, 2);
        due(75, "an array after a list", x.arrayElement(0, 0), 0);
        due(79, "usedSlotCount()", x.usedSlotCount(), 2);
    }

    private static void mismatches() {
        EdgeIdeals x = graph(4, 2);
        x.newArray(0, 2);
        x.setArrayElement(0, 0, C + D);
        x.setArrayElement(0, 1, B + C);
        due(78, "the array is shorter", x.firstMismatch(0, 1), 2);
        x.newArray(1, 4);
        x.setArrayElement(1, 0, C + D);
        x.setArrayElement(1, 1, B + C);
        x.setArrayElement(1, 2, A + B);
        due(78, "the array is longer", x.firstMismatch(1, 1), 3);
        x.setArrayElement(1, 1, -5);
        due(78, "an element differs", x.firstMismatch(1, 1), 1);
        due(78, "another power", x.firstMismatch(1, 2), 0);
        x.newArray(2, 0);
        due(78, "an array of length 0", x.firstMismatch(2, 1), 0);
        x.saveList(3);
        due(78, "a list", x.firstMismatch(3, 1), -12);
        x.clearSlot(3);
        due(78, "an empty slot", x.firstMismatch(3, 1), -11);
        due(78, "firstMismatch(3, 4)", x.firstMismatch(3, 4), -1);
        due(78, "firstMismatch(3, 0)", x.firstMismatch(3, 0), -1);
        due(78, "firstMismatch(4, 1)", x.firstMismatch(4, 1), -1);
        due(78, "firstMismatch(-1, 1)", x.firstMismatch(-1, 1), -1);
        x.build(0);
        due(78, "both are empty", x.firstMismatch(2, 3), -2);
        due(78, "no generators", x.firstMismatch(0, 1), 0);
        x.build(4);
        x.newArray(0, 3);
        x.setArrayElement(0, 0, A + D);
        x.setArrayElement(0, 1, A + C);
        x.setArrayElement(0, 2, A + B);
        due(78, "equal", x.firstMismatch(0, 1), -2);
    }

    private static void snapshots() {
        EdgeIdeals x = graph(5, 1);
        due(83, "restoreSnapshot()", x.restoreSnapshot(), -5);
        x.addDegreeTest(1);
        x.addNotTest(0);
        parsed(x, "ab,c");
        due(82, "takeSnapshot()", x.takeSnapshot(), 5);
        due(82, "the history stays", x.changeCount(), 1);
        x.addAndTest(0, 1);
        x.divideListBy(0);
        x.saveList(2);
        x.feed(97);
        x.setVertexCount(3);
        x.build(3);
        due(83, "restoreSnapshot()", x.restoreSnapshot(), 5);
        due(83, "vertexCount()", x.vertexCount(), 5);
        due(83, "edgeCount()", x.edgeCount(), 5);
        due(83, "generatorCount(1)", x.generatorCount(1), 5);
        due(83, "testCount()", x.testCount(), 2);
        due(83, "passCount(1)", x.passCount(1), 1019);
        dueText(83, x, "ab,c");
        due(83, "changeCount()", x.changeCount(), 0);
        due(83, "the slots stay", x.usedSlotCount(), 1);
        due(83, "the input stays", x.inputLength(), 1);
        x.addOrTest(0, 0);
        x.toggleEdge(0, 1);
        x.clearList();
        due(83, "restoreSnapshot() once more", x.restoreSnapshot(), 5);
        due(83, "testCount()", x.testCount(), 2);
        due(83, "edgeCount()", x.edgeCount(), 5);
        dueText(83, x, "ab,c");
        x.setVertexCount(2);
        x.clearList();
        due(82, "another snapshot", x.takeSnapshot(), 2);
        x.append(3);
        x.setVertexCount(6);
        due(83, "the latest snapshot", x.restoreSnapshot(), 2);
        due(83, "the latest snapshot", x.listSize(), 0);
        x.loadList(2);
        dueText(83, x, "b,c");
    }

    public static void main(String[] args) {
        newObject();
        changingTheGraph();
        building();
        reverting();
        graphQuestions();
        vertexCovers();
        elimination();
        monomials();
        arithmetic();
        generators();
        symbolicGenerators();
        countingInPowers();
        linearQuotients();
        orderedAfterOtherCalls();
        bettiNumbers();
        simpleTests();
        madeTests();
        askingTests();
        listBasics();
        minimizing();
        reordering();
        fullList();
        divisorsAndPolarization();
        input();
        parsing();
        formatting();
        listSlots();
        arraySlots();
        mismatches();
        snapshots();
        Check.everyPromiseLookedAt();
        Check.finish();
    }
}
