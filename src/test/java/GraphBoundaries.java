/** Promises 1 to 18: the graph, its changes, and questions about it. */
final class GraphBoundaries extends Boundaries {
    private static void newObject() {
        says(1, "Creates a graph with 4 vertices and no edges, an empty list, no tests and empty slots.",
                "A new object has 4 vertices and no edges.");
        EdgeIdeals x = new EdgeIdeals();
        due("vertexCount()", x.vertexCount(), 4);
        due("edgeCount()", x.edgeCount(), 0);
        dueSame("all neighbors", edgesOf(x), "[0, 0, 0, 0]");
        due("listSize()", x.listSize(), 0);
        due("testCount()", x.testCount(), 0);
        due("usedSlotCount()", x.usedSlotCount(), 0);
        for (int slot = 0; slot < 4; slot++) {
            due("slot " + slot, x.clearSlot(slot), 0);
        }
        due("no change", x.changeCount(), 0);
        due("no snapshot", x.restoreSnapshot(), NOT_POSSIBLE);
        stateOf(furnished());
        furnished();
        dueSame("other objects are in use", stateOf(new EdgeIdeals()), stateOf(x));

        says(1, "There is one list of monomials, with at most 24 elements, initially empty.");
        due("listSize()", new EdgeIdeals().listSize(), 0);
        says(1, "The input is a buffer of at most 60 bytes, initially empty.");
        due("inputLength()", new EdgeIdeals().inputLength(), 0);
        due("parse()", new EdgeIdeals().parse(), -1000);
    }

    private static void vertexCounts() {
        says(2, "`count`: the new number of vertices, 1 to 7", "It has 1 to 7 vertices, numbered from 0.",
                "Returns the previous number of vertices");
        EdgeIdeals x = new EdgeIdeals();
        due("the first call", x.setVertexCount(1), 4);
        due("the least number", x.vertexCount(), 1);
        due("from 1 to 7", x.setVertexCount(7), 1);
        due("the greatest number", x.vertexCount(), 7);
        due("the same number again", x.setVertexCount(7), 7);
        due("vertex 0", x.neighbors(0), 0);
        due("vertex 6", x.neighbors(6), 0);
        due("vertex 7", x.neighbors(7), BAD_ARGUMENT);
        for (int count = 1; count <= 7; count++) {
            x.setVertexCount(count);
            due("vertexCount()", x.vertexCount(), count);
        }

        says(2, "BAD_ARGUMENT if count is out of range",
                "A call that returns an error code leaves the state unchanged, unless its description says otherwise.");
        refusedEach("setVertexCount", (y, count) -> y.setVertexCount(count), BAD_ARGUMENT, outside(1, 7));

        says(2, "Replaces the graph by one with the given number of vertices and no edges.");
        x = graph(4, 3);
        x.setVertexCount(4);
        due("the same number: no edges", x.edgeCount(), 0);
        x.build(3);
        x.setVertexCount(6);
        dueSame("more vertices: no edges", edgesOf(x), "[0, 0, 0, 0, 0, 0]");
        x.build(3);
        x.setVertexCount(2);
        dueSame("fewer vertices: no edges", edgesOf(x), "[0, 0]");
        x.setVertexCount(6);
        dueSame("no edge comes back", edgesOf(x), "[0, 0, 0, 0, 0, 0]");

        says(2, "The change history becomes empty.");
        x = graph(4, 3);
        x.setVertexCount(4);
        due("changeCount()", x.changeCount(), 0);
        due("revertChange()", x.revertChange(), NOT_POSSIBLE);

        says(2, "The list, the tests, the slots and the input stay.");
        x = furnished();
        x.setVertexCount(2);
        due("fewer vertices: the list", x.listSize(), 3);
        dueList("an element with a variable that is gone", x, "1,a2b,cg3");
        due("the tests", x.testCount(), 3);
        due("a test", x.passCount(0), 8);
        due("the array", x.arrayElement(1, 2), -77);
        due("the slots", x.usedSlotCount(), 2);
        due("the list in a slot", x.loadList(0), 3);
        due("the input", x.inputLength(), 4);
        due("the input", x.parse(), 2);
        dueList("the input", x, "a2,d");
        due("the snapshot", x.restoreSnapshot(), 3);

        says(2, "Its elements keep their codes when the number of vertices changes");
        x = graph(7, 0);
        x.append(16383);
        x.setVertexCount(1);
        due("element(0)", x.element(0), 16383);
    }

    private static void toggling() {
        says(3, "Adds the edge between two different vertices", "The graph is simple and undirected.",
                "Returns 1 if the edge exists afterwards, 0 if not;");
        EdgeIdeals x = graph(7, 0);
        due("an edge that is not there", x.toggleEdge(0, 6), 1);
        dueSame("both ends", edgesOf(x), "[64, 0, 0, 0, 0, 0, 1]");
        due("one edge", x.edgeCount(), 1);
        due("the same edge, told from its other end", x.toggleEdge(6, 0), 0);
        dueSame("no end", edgesOf(x), "[0, 0, 0, 0, 0, 0, 0]");

        says(3, "or removes it if it exists.");
        x = graph(3, 3);
        due("an edge that is there", x.toggleEdge(1, 2), 0);
        dueSame("the others stay", edgesOf(x), "[6, 1, 1]");

        says(3, "`u`: the number of an existing vertex", "`v`: the number of another existing vertex");
        due("the vertices with the lowest numbers", graph(7, 0).toggleEdge(0, 1), 1);
        due("the vertices with the greatest numbers", graph(7, 0).toggleEdge(5, 6), 1);
        due("the last vertex of 4", new EdgeIdeals().toggleEdge(3, 0), 1);
        due("two vertices", graph(2, 0).toggleEdge(1, 0), 1);

        says(3, "BAD_ARGUMENT if u or v is not an existing vertex or u equals v.");
        refusedEach("toggleEdge(.., 0)", (y, u) -> y.toggleEdge(u, 0), BAD_ARGUMENT, 5, 6, 7, -1, LOW, HIGH);
        refusedEach("toggleEdge(0, ..)", (y, v) -> y.toggleEdge(0, v), BAD_ARGUMENT, 5, 6, 7, -1, LOW, HIGH);
        refusedEach("toggleEdge of equal vertices", (y, v) -> y.toggleEdge(v, v), BAD_ARGUMENT, 0, 2, 4, 5, -1);
        refused("the only vertex", y -> y.setVertexCount(1), y -> y.toggleEdge(0, 0), BAD_ARGUMENT);

        says(3, "This is a recorded change.", "Calls of toggleEdge and build that do not return an error are recorded");
        x = new EdgeIdeals();
        x.toggleEdge(0, 1);
        due("an edge more", x.changeCount(), 1);
        x.toggleEdge(0, 1);
        due("an edge less", x.changeCount(), 2);
        x.toggleEdge(0, 0);
        due("refused", x.changeCount(), 2);
    }

    private static void building() {
        says(4, "`kind`: 0 to 5", "Returns the number of edges afterwards;");
        int[][] counts = {{0, 0, 0, 0, 0}, {0, 0, 1, 1, 1}, {0, 3, 2, 3, 2}, {0, 4, 3, 6, 3}, {0, 5, 4, 10, 4},
            {0, 6, 5, 15, 5}, {0, 7, 6, 21, 6}};
        for (int n = 1; n <= 7; n++) {
            for (int kind = 0; kind <= 4; kind++) {
                if (kind != 1 || n >= 3) {
                    EdgeIdeals x = graph(n, 3);
                    due("kind " + kind + " with " + n + " vertices", x.build(kind), counts[n - 1][kind]);
                    due("edgeCount()", x.edgeCount(), counts[n - 1][kind]);
                }
            }
            due("kind 5 with " + n + " vertices", graph(n, 0).build(5), counts[n - 1][3]);
        }

        says(4, "Replaces the edges of the graph;", "the number of vertices stays.");
        EdgeIdeals x = graph(6, 3);
        x.build(2);
        due("vertexCount()", x.vertexCount(), 6);
        due("no old edge stays", x.neighbors(0), 2);

        says(4, "Kind 0: no edges.");
        dueSame("7 vertices", edgesOf(graph(7, 0)), "[0, 0, 0, 0, 0, 0, 0]");
        says(4, "between each vertex and the next one and between the last vertex and vertex 0.");
        dueSame("7 vertices", edgesOf(graph(7, 1)), "[66, 5, 10, 20, 40, 80, 33]");
        dueSame("3 vertices", edgesOf(graph(3, 1)), "[6, 5, 3]");
        says(4, "Kind 2: a path, with an edge between each vertex and the next one.");
        dueSame("7 vertices", edgesOf(graph(7, 2)), "[2, 5, 10, 20, 40, 80, 32]");
        dueSame("2 vertices", edgesOf(graph(2, 2)), "[2, 1]");
        dueSame("1 vertex", edgesOf(graph(1, 2)), "[0]");
        says(4, "Kind 3: all edges.");
        dueSame("7 vertices", edgesOf(graph(7, 3)), "[126, 125, 123, 119, 111, 95, 63]");
        dueSame("1 vertex", edgesOf(graph(1, 3)), "[0]");
        says(4, "Kind 4: a star, with an edge between vertex 0 and each other vertex.");
        dueSame("7 vertices", edgesOf(graph(7, 4)), "[126, 1, 1, 1, 1, 1, 1]");
        dueSame("1 vertex", edgesOf(graph(1, 4)), "[0]");
        says(4, "Kind 5: the complement of the current graph.",
                "The complement of the graph has an edge exactly where the graph has none.");
        x = graph(7, 4);
        x.build(5);
        dueSame("of a star", edgesOf(x), "[0, 124, 122, 118, 110, 94, 62]");
        x.build(5);
        dueSame("of the complement", edgesOf(x), "[126, 1, 1, 1, 1, 1, 1]");
        due("of no edges", graph(7, 0).build(5), 21);
        due("of all edges", graph(7, 3).build(5), 0);
        due("of one vertex", graph(1, 0).build(5), 0);
        dueSame("of one vertex, no edge to itself", edgesOf(graph(1, 5)), "[0]");

        buildingRefused();
    }

    private static void buildingRefused() {
        says(4, "This is a recorded change, even if no edge changes.",
                "build that do not return an error are recorded");
        EdgeIdeals x = new EdgeIdeals();
        x.build(0);
        due("no edges before and after", x.changeCount(), 1);
        x.build(3);
        x.build(3);
        due("all edges before and after", x.changeCount(), 3);
        due("the change without effect is reverted", x.revertChange(), 2);
        due("all edges are still there", x.edgeCount(), 6);
        x = graph(1, 5);
        due("one vertex", x.changeCount(), 1);
        x.build(1);
        due("refused", x.changeCount(), 1);
        x.build(6);
        due("refused", x.changeCount(), 1);

        says(4, "BAD_ARGUMENT if kind is out of range (checked first);");
        refusedEach("build", (y, kind) -> y.build(kind), BAD_ARGUMENT, outside(0, 5));
        refusedEach("build of one vertex", y -> y.setVertexCount(1), (y, kind) -> y.build(kind), BAD_ARGUMENT,
                outside(0, 5));
        refusedEach("build of two vertices", y -> y.setVertexCount(2), (y, kind) -> y.build(kind), BAD_ARGUMENT,
                outside(0, 5));

        says(4, "NOT_POSSIBLE if kind is 1 and there are fewer than 3 vertices.");
        for (int n = 1; n <= 2; n++) {
            int vertices = n;
            refused("build(1) of " + n, y -> {
                y.setVertexCount(vertices);
                y.build(3);
            }, y -> y.build(1), NOT_POSSIBLE);
        }
        due("just 3 vertices", graph(3, 0).build(1), 3);
    }

    private static void reverting() {
        says(5, "NOT_POSSIBLE if the history is empty.");
        due("a new object", new EdgeIdeals().revertChange(), NOT_POSSIBLE);
        refused("after setVertexCount", x -> x.setVertexCount(5), EdgeIdeals::revertChange, NOT_POSSIBLE);
        refused("after restoreSnapshot", EdgeIdeals::restoreSnapshot, EdgeIdeals::revertChange, NOT_POSSIBLE);
        refused("all reverted", x -> {
            x.revertChange();
            x.revertChange();
        }, EdgeIdeals::revertChange, NOT_POSSIBLE);

        says(5,
                "Reverts the latest recorded change that was not yet reverted: the edges become those before that change.",
                "Returns the number of changes that can still be reverted");
        EdgeIdeals x = new EdgeIdeals();
        x.toggleEdge(0, 3);
        x.toggleEdge(0, 3);
        x.build(4);
        due("of three", x.revertChange(), 2);
        due("edges before the star", x.edgeCount(), 0);
        due("of two", x.revertChange(), 1);
        dueSame("the removed edge is back", edgesOf(x), "[8, 0, 0, 1]");
        x.build(3);
        due("a change after a revert", x.changeCount(), 2);
        due("it is the latest", x.revertChange(), 1);
        dueSame("edges before it", edgesOf(x), "[8, 0, 0, 1]");
        due("the last one", x.revertChange(), 0);
        due("no edges", x.edgeCount(), 0);
        due("a revert is no change", x.changeCount(), 0);
        due("it cannot be reverted", x.revertChange(), NOT_POSSIBLE);

        says(5, "Only the latest 12 that were not reverted can be reverted.");
        for (int changes = 11; changes <= 14; changes++) {
            x = graph(7, 0);
            x.setVertexCount(7);
            for (int k = 0; k < changes; k++) {
                x.toggleEdge(k < 6 ? 0 : k < 11 ? 1 : 2, k < 6 ? k + 1 : k < 11 ? k - 4 : k - 8);
            }
            due(changes + " changes", x.changeCount(), Math.min(changes, 12));
            for (int left = Math.min(changes, 12) - 1; left >= 0; left--) {
                due(changes + " changes", x.revertChange(), left);
                due(changes + " changes, " + left + " left", x.edgeCount(), left + Math.max(changes - 12, 0));
            }
            due(changes + " changes, no further", x.revertChange(), NOT_POSSIBLE);
            due(changes + " changes, the oldest stay", x.edgeCount(), Math.max(changes - 12, 0));
        }
    }

    private static void simpleQuestions() {
        says(6, "Returns the number of vertices.", "Returns the number of vertices, 1 to 7.", "It has 1 to 7 vertices");
        due("one vertex", graph(1, 0).vertexCount(), 1);
        due("7 vertices", graph(7, 3).vertexCount(), 7);

        says(7, "Returns the number of edges.");
        due("none", graph(7, 0).edgeCount(), 0);
        due("one vertex", graph(1, 3).edgeCount(), 0);
        due("the greatest number", graph(7, 3).edgeCount(), 21);

        says(8, "bit u is 1 if there is an edge between u and v.", "Sets of vertices are bit sets: bit v stands for",
                "Returns the neighbors of a vertex as a bit set", "Returns the bit set");
        due("no neighbor", graph(7, 0).neighbors(6), 0);
        due("all others, without itself", graph(7, 3).neighbors(0), 126);
        due("all others, without itself", graph(7, 3).neighbors(6), 63);
        due("the lowest bit", withEdges(7, 6).neighbors(6), 1);
        due("the highest bit", withEdges(7, 6).neighbors(0), 64);
        says(8, "`v`: the number of an existing vertex", "BAD_ARGUMENT if v is not an existing vertex.");
        due("the only vertex", graph(1, 0).neighbors(0), 0);
        due("the last vertex", graph(4, 2).neighbors(3), 4);
        refusedEach("neighbors of 5 vertices", (x, v) -> x.neighbors(v), BAD_ARGUMENT, outside(0, 4));
        refusedEach("neighbors of 1 vertex", x -> x.setVertexCount(1), (x, v) -> x.neighbors(v), BAD_ARGUMENT,
                outside(0, 0));
        refusedEach("neighbors of 7 vertices", x -> x.setVertexCount(7), (x, v) -> x.neighbors(v), BAD_ARGUMENT,
                outside(0, 6));

        says(9, "An isolated vertex is a component.", "Returns the number of connected components.",
                "Returns the number of components.");
        due("one vertex", graph(1, 0).componentCount(), 1);
        due("7 isolated vertices", graph(7, 0).componentCount(), 7);
        due("all edges", graph(7, 3).componentCount(), 1);
        due("a path", graph(7, 2).componentCount(), 1);
        due("two edges", withEdges(4, 1, 23).componentCount(), 2);
        due("two triangles and a vertex", withEdges(7, 2, 24, 40, 13, 35, 51).componentCount(), 3);
        due("a path whose numbers go to and fro", withEdges(7, 6, 61, 15, 52, 24, 43).componentCount(), 1);
        due("an edge, an isolated vertex between, a triangle", withEdges(6, 1, 34, 45, 53).componentCount(), 3);

        says(10, "Returns whether the graph has a cycle of odd length, that is, whether it is not bipartite.",
                "Returns 1 if it has one, 0 if not.");
        int[] odd = {0, 0, 0, 1, 0, 1, 0, 1};
        for (int n = 3; n <= 7; n++) {
            due("a cycle of " + n, graph(n, 1).hasOddCycle(), odd[n]);
        }
        due("one vertex", graph(1, 3).hasOddCycle(), 0);
        due("no edges", graph(7, 0).hasOddCycle(), 0);
        due("one edge", graph(2, 3).hasOddCycle(), 0);
        due("a star", graph(7, 4).hasOddCycle(), 0);
        due("in the last component only", withEdges(7, 1, 12, 45, 56, 64).hasOddCycle(), 1);
        due("an even and an odd cycle that share an edge", withEdges(5, 1, 12, 23, 30, 4, 14).hasOddCycle(), 1);

        says(11, "the greatest number of edges of which no two share a vertex.", "Returns the matching number.");
        due("one vertex", graph(1, 0).matchingNumber(), 0);
        due("no edges", graph(7, 0).matchingNumber(), 0);
        due("a star", graph(7, 4).matchingNumber(), 1);
        due("all vertices but one", graph(7, 3).matchingNumber(), 3);
        due("all vertices", graph(6, 1).matchingNumber(), 3);
        due("a triangle", graph(3, 3).matchingNumber(), 1);
        due("the edge in the middle must be left out", withEdges(4, 12, 1, 23).matchingNumber(), 2);
        due("the edge of the lowest vertices must be left out", withEdges(4, 1, 2, 13).matchingNumber(), 2);
        due("two triangles", withEdges(6, 1, 12, 20, 34, 45, 53).matchingNumber(), 2);
    }

    private static void covers() {
        says(12, "Returns the number of minimal vertex covers.",
                "Returns the number of minimal vertex covers, at least 1.",
                "If there are no edges, the empty set is the only minimal vertex cover.");
        due("no edges", graph(7, 0).coverCount(), 1);
        due("one vertex", graph(1, 0).coverCount(), 1);
        due("one edge", graph(2, 3).coverCount(), 2);
        due("all edges", graph(7, 3).coverCount(), 7);
        due("the greatest number", withEdges(7, 1, 12, 20, 34, 35, 36, 45, 46, 56).coverCount(), 12);

        says(13, "If there are no edges, the empty set is the only minimal vertex cover.");
        due("no edges", graph(7, 0).cover(0), 0);
        due("no edges", graph(7, 0).cover(1), NONE);
        due("one vertex", graph(1, 0).cover(0), 0);
        says(13, "Returns a minimal vertex cover as a bit set.", "It is minimal if no proper subset is a vertex cover.",
                "A vertex cover is a set of vertices that contains at least one end of each edge.",
                "Returns the bit set;");
        due("one edge", graph(2, 3).cover(0), 1);
        due("one edge", graph(2, 3).cover(1), 2);
        due("an isolated vertex is in no cover", withEdges(7, 56).cover(1), 64);
        says(13, "The covers are numbered from 0 in ascending order of their bit sets.");
        int[] allEdges = {63, 95, 111, 119, 123, 125, 126};
        for (int i = 0; i < 7; i++) {
            due("all edges, cover " + i, graph(7, 3).cover(i), allEdges[i]);
        }
        due("the larger cover has the smaller bit set", withEdges(4, 3, 13, 23).cover(0), 7);
        due("the smaller cover has the larger bit set", withEdges(4, 3, 13, 23).cover(1), 8);
        says(13, "`i`: the number of the cover", "BAD_ARGUMENT if i is negative;");
        due("the last cover", withEdges(7, 1, 12, 20, 34, 35, 36, 45, 46, 56).cover(11), 118);
        refusedEach("cover", (x, i) -> x.cover(i), BAD_ARGUMENT, negative());
        says(13, "NONE if i is not less than the number of covers.");
        refusedEach("one edge", x -> {
            x.setVertexCount(2);
            x.build(2);
        }, (x, i) -> x.cover(i), NONE, tooGreat(2));
        refusedEach("7 covers", x -> {
            x.setVertexCount(7);
            x.build(3);
        }, (x, i) -> x.cover(i), NONE, tooGreat(7));

        says(14, "0 if there are no edges.", "If there are no edges, the empty set is the only minimal vertex cover.");
        due("no edges", graph(7, 0).height(), 0);
        due("one vertex", graph(1, 0).height(), 0);
        due("the edges were removed", withEdges(3, 1, 10).height(), 0);
        says(14, "Returns the number of vertices of a smallest minimal vertex cover.", "This is the height of the edge",
                "Returns the height;");
        due("a star", graph(7, 4).height(), 1);
        due("a star around the last vertex", withEdges(4, 3, 13, 23).height(), 1);
        due("all edges", graph(7, 3).height(), 6);

        says(15, "0 if there are no edges.");
        due("no edges", graph(7, 0).bigHeight(), 0);
        due("one vertex", graph(1, 0).bigHeight(), 0);
        due("the edges were removed", withEdges(3, 1, 10).bigHeight(), 0);
        says(15, "Returns the number of vertices of a largest minimal vertex cover.", "Returns the big height;");
        due("a star", graph(7, 4).bigHeight(), 6);
        due("a star around the last vertex", withEdges(4, 3, 13, 23).bigHeight(), 3);
        due("all edges", graph(7, 3).bigHeight(), 6);
    }

    /** The covers of the present graph are asked for, whatever was asked before. */
    private static void coversAnew() {
        EdgeIdeals x = graph(7, 3);
        int[][] answers = new int[3][];
        for (int round = 0; round < 3; round++) {
            answers[round] = new int[] {x.coverCount(), x.cover(0), x.cover(1), x.height(), x.bigHeight(),
                x.symbolicOrder(16383)};
            x.build(round == 0 ? 0 : 4);
        }
        int[][] wanted = {{7, 63, 95, 6, 6, 18}, {1, 0, NONE, 0, 0, 0}, {2, 1, 126, 1, 6, 3}};
        for (int round = 0; round < 3; round++) {
            says(12, "Returns the number of minimal vertex covers.");
            due("graph " + round, answers[round][0], wanted[round][0]);
            says(13, "Returns a minimal vertex cover as a bit set.");
            due("graph " + round, answers[round][1], wanted[round][1]);
            due("graph " + round, answers[round][2], wanted[round][2]);
            says(14, "0 if there are no edges.");
            due("graph " + round, answers[round][3], wanted[round][3]);
            says(15, "0 if there are no edges.");
            due("graph " + round, answers[round][4], wanted[round][4]);
            says(22, "it is 0 if there are no edges.");
            due("graph " + round, answers[round][5], wanted[round][5]);
        }
    }

    private static void elimination() {
        says(16, "Returns the number of vertices that simplicial elimination removes.",
                "Returns the number of removed vertices", "It ends when no remaining vertex qualifies.",
                "It starts with all vertices and repeats one step",
                "`complement`: 0 for the graph, 1 for its complement");
        due("a cycle of 4: none", graph(4, 1).eliminationLength(0), 0);
        due("its complement: all", graph(4, 1).eliminationLength(1), 4);
        due("a cycle of 5: none", graph(5, 1).eliminationLength(0), 0);
        due("its complement: none", graph(5, 1).eliminationLength(1), 0);
        due("one vertex", graph(1, 0).eliminationLength(0), 1);
        due("the complement of one vertex", graph(1, 0).eliminationLength(1), 1);
        due("no edges: all", graph(7, 0).eliminationLength(0), 7);
        due("all edges: all", graph(7, 3).eliminationLength(0), 7);
        due("some, but not all", withEdges(6, 1, 12, 23, 30, 4, 45).eliminationLength(0), 2);
        says(16, "A vertex with at most one remaining neighbor qualifies.");
        due("no neighbor", withEdges(5, 1, 12, 23, 30).eliminationLength(0), 1);
        due("one neighbor", withEdges(5, 1, 12, 23, 30, 4).eliminationLength(0), 1);
        due("two neighbors that are adjacent", withEdges(5, 1, 12, 23, 30, 4, 14).eliminationLength(0), 1);
        due("two neighbors that are not", withEdges(5, 1, 12, 23, 30, 4, 24).eliminationLength(0), 0);
        says(16, "BAD_ARGUMENT if complement is neither 0 nor 1.");
        refusedEach("eliminationLength", (x, c) -> x.eliminationLength(c), BAD_ARGUMENT, outside(0, 1));

        says(17, "it removes the vertex with the smallest number among those whose remaining neighbors are pairwise",
                "Returns a vertex by its position in the order in which simplicial elimination removes vertices.",
                "`complement`: 0 for the graph, 1 for its complement", "Returns the vertex;",
                "`i`: the position, 0 for the vertex that is removed first");
        int[] path = {1, 0, 2, 3};
        EdgeIdeals x = withEdges(4, 1, 2, 23);
        for (int i = 0; i < 4; i++) {
            due("a path with its ends at 1 and 3", x.eliminated(0, i), path[i]);
        }
        due("the smallest number is looked for anew", withEdges(3, 1, 2).eliminated(0, 1), 0);
        due("the last of 7", graph(7, 3).eliminated(0, 6), 6);
        due("the complement", graph(4, 2).eliminated(1, 0), 1);
        says(17, "BAD_ARGUMENT if complement is neither 0 nor 1 or i is negative;");
        refusedEach("eliminated(.., 0)", (y, c) -> y.eliminated(c, 0), BAD_ARGUMENT, outside(0, 1));
        refusedEach("eliminated(.., 9)", (y, c) -> y.eliminated(c, 9), BAD_ARGUMENT, outside(0, 1));
        refusedEach("eliminated(0, ..)", (y, i) -> y.eliminated(0, i), BAD_ARGUMENT, negative());
        refusedEach("eliminated(1, ..)", (y, i) -> y.eliminated(1, i), BAD_ARGUMENT, negative());
        says(17, "NONE if i is not less than the number of removed vertices.");
        refusedEach("none removed", y -> y.revertChange(), (y, i) -> y.eliminated(0, i), NONE, tooGreat(0));
        refusedEach("all removed", y -> y.build(0), (y, i) -> y.eliminated(0, i), NONE, tooGreat(5));
        refusedEach("some removed", y -> {
            y.build(0);
            addEdges(y, 1, 12, 23, 30, 4);
        }, (y, i) -> y.eliminated(0, i), NONE, tooGreat(1));

        says(18, "that is, whether simplicial elimination removes all vertices.",
                "Returns 1 if it is chordal, 0 if not;",
                "`complement`: 0 for the graph, 1 for its complement");
        due("one vertex", graph(1, 0).isChordal(0), 1);
        due("one vertex", graph(1, 0).isChordal(1), 1);
        due("a cycle of 3", graph(3, 1).isChordal(0), 1);
        due("a cycle of 4", graph(4, 1).isChordal(0), 0);
        due("the complement of a cycle of 4", graph(4, 1).isChordal(1), 1);
        due("a graph whose complement is a cycle of 4", withEdges(4, 2, 13).isChordal(0), 1);
        due("a graph whose complement is a cycle of 4", withEdges(4, 2, 13).isChordal(1), 0);
        due("some removed, but not all", withEdges(5, 1, 12, 23, 30, 4).isChordal(0), 0);
        says(18, "BAD_ARGUMENT if complement is neither 0 nor 1.");
        refusedEach("isChordal", (y, c) -> y.isChordal(c), BAD_ARGUMENT, outside(0, 1));
    }

    static void lookAt() {
        newObject();
        vertexCounts();
        toggling();
        building();
        reverting();
        simpleQuestions();
        covers();
        coversAnew();
        elimination();
    }
}
