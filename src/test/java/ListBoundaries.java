/** Promises 52 to 66: the list of monomials. */
final class ListBoundaries extends Boundaries {
    private static final String LIMIT = "There is one list of monomials, with at most 24 elements, initially empty.";
    private static final String ALL_SEVEN =
            "the operations of the list consider all 7 variables, also those of vertices that do not exist.";

    private static void appending() {
        says(52, "Appends a monomial to the list.", "`m`: a monomial code", "Returns the new size of the list;");
        EdgeIdeals x = graph(7, 0);
        due("the lowest code to an empty list", x.append(0), 1);
        due("the greatest code", x.append(16383), 2);
        due("one that is there already", x.append(0), 3);
        dueSame("at the end", codesOf(x), "0,16383,0");
        due("the greatest code of one vertex", graph(1, 0).append(3), 1);
        says(52, "FULL if the list has 24 elements.", LIMIT);
        for (int size = 4; size <= 24; size++) {
            due("element " + size, x.append(size), size);
        }
        due("element 25", x.append(25), FULL);
        due("the last one stays", x.element(23), 24);
        refused("a full list", Boundaries::fillList, y -> y.append(5), FULL);
        refused("a full list, the monomial 1", Boundaries::fillList, y -> y.append(0), FULL);
        says(52, "BAD_ARGUMENT if m is not a valid code (checked first);");
        refusedEach("3 elements", (y, m) -> y.append(m), BAD_ARGUMENT, outside(0, 1023));
        refusedEach("a full list", Boundaries::fillList, (y, m) -> y.append(m), BAD_ARGUMENT, outside(0, 1023));
        refusedEach("one vertex", y -> y.setVertexCount(1), (y, m) -> y.append(m), BAD_ARGUMENT, outside(0, 3));
        refusedEach("7 vertices", y -> y.setVertexCount(7), (y, m) -> y.append(m), BAD_ARGUMENT, outside(0, 16383));
    }

    private static void filling() {
        String power = "`s`: the power, 1 to 3";
        String size = "Returns the new size of the list;";
        String out = "BAD_ARGUMENT if s is out of range (checked first);";
        String full = "FULL if there are more than 24 generators.";
        says(53, "Replaces the list by the minimal generators of the s-th power, in descending order of their codes.",
                power, size);
        EdgeIdeals x = withList("a,b,c,d,e,f,g");
        x.build(2);
        due("power 1", x.fillWithGenerators(1), 3);
        dueSame("power 1", codesOf(x), "80,20,5");
        due("power 2", x.fillWithGenerators(2), 6);
        due("power 3", x.fillWithGenerators(3), 10);
        due("the first of power 3", x.element(0), 3 * C + 3 * D);
        due("the last of power 3", x.element(9), 3 * A + 3 * B);
        x.build(0);
        due("no generators", x.fillWithGenerators(1), 0);
        due("the list is empty", x.listSize(), 0);
        x = graph(1, 3);
        x.append(3);
        due("one vertex", x.fillWithGenerators(3), 0);
        says(53, full, LIMIT);
        // 22, 23 or 24 generators do not occur with 7 vertices.
        due("21 generators", graph(7, 3).fillWithGenerators(1), 21);
        refused("25 generators", y -> {
            y.build(0);
            addEdges(y, 1, 2, 12, 3, 13, 4, 14);
        }, y -> y.fillWithGenerators(2), FULL);
        refused("728 generators", y -> {
            y.setVertexCount(7);
            y.build(3);
        }, y -> y.fillWithGenerators(3), FULL);
        EdgeIdeals filled = new EdgeIdeals();
        fillList(filled);
        filled.build(2);
        due("the old list does not count", filled.fillWithGenerators(1), 3);
        says(53, out);
        refusedEach("3 elements", (y, s) -> y.fillWithGenerators(s), BAD_ARGUMENT, outside(1, 3));
        refusedEach("all edges", y -> y.build(3), (y, s) -> y.fillWithGenerators(s), BAD_ARGUMENT, outside(1, 3));

        says(54, "Replaces the list by the minimal generators of the s-th symbolic power, in descending order of their",
                power, size);
        x = withList("a,b,c,d,e,f,g");
        x.setVertexCount(3);
        x.build(3);
        due("power 1", x.fillWithSymbolicGenerators(1), 3);
        due("power 2", x.fillWithSymbolicGenerators(2), 4);
        dueList("power 2", x, "b2c2,a2c2,abc,a2b2");
        due("power 3", x.fillWithSymbolicGenerators(3), 6);
        x.build(0);
        due("no generators", x.fillWithSymbolicGenerators(1), 0);
        due("the list is empty", x.listSize(), 0);
        says(54, full, LIMIT);
        due("24 generators", withEdges(5, 1, 12, 13, 23, 4).fillWithSymbolicGenerators(3), 24);
        refused("25 generators", y -> {
            y.setVertexCount(6);
            addEdges(y, 2, 12, 3, 13, 4, 14, 5);
        }, y -> y.fillWithSymbolicGenerators(2), FULL);
        refused("161 generators", y -> {
            y.setVertexCount(7);
            y.build(3);
        }, y -> y.fillWithSymbolicGenerators(3), FULL);
        filled = new EdgeIdeals();
        fillList(filled);
        filled.build(2);
        due("the old list does not count", filled.fillWithSymbolicGenerators(1), 3);
        says(54, out);
        refusedEach("3 elements", (y, s) -> y.fillWithSymbolicGenerators(s), BAD_ARGUMENT, outside(1, 3));
        refusedEach("all edges", y -> y.build(3), (y, s) -> y.fillWithSymbolicGenerators(s), BAD_ARGUMENT,
                outside(1, 3));
    }

    private static void lookingUp() {
        says(55, "Returns the size, 0 to 24.", "Returns the size of the list.", LIMIT);
        EdgeIdeals x = new EdgeIdeals();
        due("empty", x.listSize(), 0);
        x.append(0);
        due("the monomial 1 counts", x.listSize(), 1);
        fillList(x);
        due("full", x.listSize(), 24);
        x.append(1);
        due("full after a refused append", x.listSize(), 24);

        says(56, "Returns an element of the list.", "`i`: the position, 0 for the first element", "Returns the code;");
        due("the first", x.element(0), 0);
        due("the last of 24", x.element(23), 23);
        says(56, "BAD_ARGUMENT if i is negative;");
        refusedEach("3 elements", (y, i) -> y.element(i), BAD_ARGUMENT, negative());
        refusedEach("an empty list", y -> y.clearList(), (y, i) -> y.element(i), BAD_ARGUMENT, negative());
        says(56, "NONE if i is not less than the size of the list.");
        refusedEach("an empty list", y -> y.clearList(), (y, i) -> y.element(i), NONE, tooGreat(0));
        refusedEach("3 elements", (y, i) -> y.element(i), NONE, tooGreat(3));
        refusedEach("a full list", Boundaries::fillList, (y, i) -> y.element(i), NONE, tooGreat(24));

        says(57, "Removes all elements of the list.", "Returns the number of removed elements.");
        due("24 elements", x.clearList(), 24);
        due("none is left", x.listSize(), 0);
        due("none is left", x.element(0), NONE);
        due("an empty list", x.clearList(), 0);
        x.append(7);
        due("one element", x.clearList(), 1);
    }

    private static void minimizing() {
        says(58, "Removes each element of the list that another element divides.", "Returns the new size of the list.");
        due("an empty list", new EdgeIdeals().minimizeList(), 0);
        due("one element", withList("a3").minimizeList(), 1);
        EdgeIdeals x = withList("ab2,ab,a2b");
        due("a divisor after and before", x.minimizeList(), 1);
        dueList("a divisor after and before", x, "ab");
        x = withList("ab,1,g3,1");
        due("1 divides all", x.minimizeList(), 1);
        dueList("1 divides all", x, "1");
        x = withList("a3,a2,a");
        due("a chain", x.minimizeList(), 1);
        dueList("a chain", x, "a");
        x = withList("a2b,ab2,b3");
        due("none divides another", x.minimizeList(), 3);
        says(58, "Of equal elements the first one stays and the others are removed.");
        x = withList("b,a,b,a,a");
        due("two pairs", x.minimizeList(), 2);
        dueList("the first of each", x, "b,a");
        x = withList("ab,c,ab,a");
        due("equal ones that another divides", x.minimizeList(), 2);
        dueList("none of them stays", x, "c,a");
        x = graph(7, 0);
        for (int i = 0; i < 24; i++) {
            x.append(16383);
        }
        due("24 equal ones", x.minimizeList(), 1);
        says(58, "The other elements keep their order.");
        x = withList("g,a2,f,ab,e,a,d");
        due("some go", x.minimizeList(), 5);
        dueList("the rest", x, "g,f,e,a,d");
        says(58, ALL_SEVEN);
        x = withList("ag2,ag,af");
        x.setVertexCount(1);
        due("variables of vertices that do not exist", x.minimizeList(), 2);
        dueList("variables of vertices that do not exist", x, "ag,af");

        says(59, "Decreases the exponent of one variable by 1 in each element of the list in which it is at least 1",
                "Returns the new size of the list");
        x = withList("a3c,a2d,ae,f");
        due("exponents 3, 2, 1 and 0", x.divideListBy(0), 4);
        dueList("exponents 3, 2, 1 and 0", x, "a2c,ad,e,f");
        x = withList("b,c");
        due("exponent 0 takes nothing from the next variable", x.divideListBy(0), 2);
        dueList("exponent 0 takes nothing from the next variable", x, "b,c");
        due("an empty list", new EdgeIdeals().divideListBy(0), 0);
        due("the monomial 1", withList("1").divideListBy(3), 1);
        x = graph(7, 0);
        for (int code = 0; x.listSize() < 24; code++) {
            // Of two monomials of the same degree none divides the other.
            if (x.degree(code) == 4) {
                x.append(code + 3 * G);
            }
        }
        due("24 elements", x.divideListBy(6), 24);
        due("the first of 24", x.element(0), 3 * A + B + 2 * G);
        due("the last of 24", x.element(23), A + B + 2 * D + 2 * G);
        says(59, "and then minimizes the list as minimizeList does.");
        x = withList("ab,b");
        due("equal afterwards", x.divideListBy(0), 1);
        x = withList("a,b,cd");
        due("1 divides the others", x.divideListBy(0), 1);
        dueList("1 divides the others", x, "1");
        x = withList("ab,a2b,c,c");
        due("minimized even if no exponent changes", x.divideListBy(6), 2);
        dueList("minimized even if no exponent changes", x, "ab,c");
        x = withList("bc,a2b,ab");
        due("a divisor before it is divided", x.divideListBy(0), 1);
        dueList("a divisor before it is divided", x, "b");
        says(59, "The vertex need not exist.", "`v`: 0 to 6", ALL_SEVEN);
        for (int v = 0; v <= 6; v++) {
            x = withList("a3b3c3d3e3f3g3");
            x.setVertexCount(1);
            due("variable " + v, x.divideListBy(v), 1);
            due("variable " + v, x.element(0), 16383 - (1 << 2 * v));
        }
        says(59, "BAD_ARGUMENT if v is out of range.");
        refusedEach("divideListBy", (y, v) -> y.divideListBy(v), BAD_ARGUMENT, outside(0, 6));
        refusedEach("7 vertices", y -> y.setVertexCount(7), (y, v) -> y.divideListBy(v), BAD_ARGUMENT, outside(0, 6));
        refusedEach("an empty list", y -> y.clearList(), (y, v) -> y.divideListBy(v), BAD_ARGUMENT, outside(0, 6));
    }

    private static void reordering() {
        says(60, "Reverses the order of the list.", "Returns the size of the list.");
        due("an empty list", new EdgeIdeals().reverseList(), 0);
        String[] lists = {"a", "a,b", "a,b,c", "a,b,c,d"};
        String[] reversed = {"a", "b,a", "c,b,a", "d,c,b,a"};
        for (int k = 0; k < 4; k++) {
            EdgeIdeals x = withList(lists[k]);
            due(lists[k], x.reverseList(), k + 1);
            dueList(lists[k], x, reversed[k]);
        }
        EdgeIdeals full = new EdgeIdeals();
        fillList(full);
        due("24 elements", full.reverseList(), 24);
        due("24 elements", full.element(0), 23);
        due("24 elements", full.element(23), 0);

        says(61, "Moves the last elements of the list to its front, keeping their order.",
                "Returns the size of the list");
        EdgeIdeals x = withList("a,b,c,d,e");
        due("two", x.rotateList(2), 5);
        dueList("two", x, "d,e,a,b,c");
        says(61, "`distance`: 0 to 24",
                "The number of moved elements is the remainder of distance divided by the size of the list.");
        int[] distances = {0, 1, 4, 5, 6, 10, 23, 24};
        String[] rotated = {"a,b,c,d,e", "e,a,b,c,d", "b,c,d,e,a", "a,b,c,d,e", "e,a,b,c,d", "a,b,c,d,e", "c,d,e,a,b",
            "b,c,d,e,a"};
        for (int k = 0; k < distances.length; k++) {
            x = withList("a,b,c,d,e");
            due("distance " + distances[k], x.rotateList(distances[k]), 5);
            dueList("distance " + distances[k], x, rotated[k]);
        }
        x = withList("a");
        due("one element", x.rotateList(24), 1);
        dueList("one element", x, "a");
        for (int distance : new int[] {0, 23, 24}) {
            full = new EdgeIdeals();
            fillList(full);
            due("24 elements by " + distance, full.rotateList(distance), 24);
            due("24 elements by " + distance, full.element(0), distance == 23 ? 1 : 0);
            due("24 elements by " + distance, full.element(23), distance == 23 ? 0 : 23);
        }
        x = withList("a,a2,b,c,d");
        x.minimizeList();
        x.rotateList(1);
        due("several in a row", x.rotateList(2), 4);
        dueList("several in a row", x, "b,c,d,a");
        says(61, "An empty list stays empty.");
        for (int distance : new int[] {0, 1, 24}) {
            x = new EdgeIdeals();
            due("an empty list by " + distance, x.rotateList(distance), 0);
            due("an empty list by " + distance, x.listSize(), 0);
        }
        says(61, "BAD_ARGUMENT if distance is out of range.");
        refusedEach("3 elements", (y, d) -> y.rotateList(d), BAD_ARGUMENT, outside(0, 24));
        refusedEach("an empty list", y -> y.clearList(), (y, d) -> y.rotateList(d), BAD_ARGUMENT, outside(0, 24));
        refusedEach("a full list", Boundaries::fillList, (y, d) -> y.rotateList(d), BAD_ARGUMENT, outside(0, 24));

        says(62, "Exchanges two elements of the list.", "`i`: a position in the list", "`j`: a position in the list",
                "Returns the size of the list");
        x = withList("a,b,c");
        due("the first and the last", x.swapElements(0, 2), 3);
        dueList("the first and the last", x, "c,b,a");
        due("the last and the first", x.swapElements(2, 0), 3);
        dueList("the last and the first", x, "a,b,c");
        says(62, "The positions may be equal.");
        due("the last with itself", x.swapElements(2, 2), 3);
        dueList("nothing changes", x, "a,b,c");
        due("one element", withList("a").swapElements(0, 0), 1);
        says(62, "NONE if i or j is negative or not less than the size of the list.");
        refusedEach("swapElements(.., 0)", (y, i) -> y.swapElements(i, 0), NONE, outside(0, 2));
        refusedEach("swapElements(0, ..)", (y, j) -> y.swapElements(0, j), NONE, outside(0, 2));
        refusedEach("equal positions", (y, i) -> y.swapElements(i, i), NONE, outside(0, 2));
        refusedEach("a full list", Boundaries::fillList, (y, i) -> y.swapElements(i, 23), NONE, outside(0, 23));
        refused("an empty list", y -> y.clearList(), y -> y.swapElements(0, 0), NONE);
    }

    private static void divisors() {
        says(63, "Returns the position of the first element of the list that divides a monomial.",
                "Returns the position;", "`m`: a monomial code");
        EdgeIdeals x = withList("a2,ab,a,b,1");
        due("the first", x.indexOfDivisor(3 * A + B), 0);
        due("equal to it", x.indexOfDivisor(A + B), 1);
        due("not the better one", x.indexOfDivisor(A), 2);
        due("the last: 1 divides all", x.indexOfDivisor(C), 4);
        due("the lowest code", x.indexOfDivisor(0), 4);
        due("the greatest code", x.indexOfDivisor(255), 0);
        EdgeIdeals full = new EdgeIdeals();
        while (full.listSize() < 23) {
            full.append(D);
        }
        full.append(C);
        due("the last of 24", full.indexOfDivisor(C), 23);
        says(63, "NONE if no element divides it.", ALL_SEVEN);
        refused("an empty list", y -> y.clearList(), y -> y.indexOfDivisor(0), NONE);
        refused("one exponent is too small", y -> parsed(y, "a2b2"), y -> y.indexOfDivisor(3 * A + B), NONE);
        refused("the monomial 1", y -> parsed(y, "a,g"), y -> y.indexOfDivisor(0), NONE);
        refused("a variable of a vertex that does not exist", y -> parsed(y, "ag,g"), y -> y.indexOfDivisor(1023),
                NONE);
        says(63, "BAD_ARGUMENT if m is not a valid code;");
        refusedEach("3 elements, 1 among them", (y, m) -> y.indexOfDivisor(m), BAD_ARGUMENT, outside(0, 1023));
        refusedEach("an empty list", y -> y.clearList(), (y, m) -> y.indexOfDivisor(m), BAD_ARGUMENT,
                outside(0, 1023));
        refusedEach("one vertex", y -> y.setVertexCount(1), (y, m) -> y.indexOfDivisor(m), BAD_ARGUMENT,
                outside(0, 3));
    }

    private static void polarizing() {
        says(64, "Returns the number of polarized variables, 0 to 21.",
                "Returns the number of polarized variables of the",
                "each variable contributes as many polarized variables as its greatest exponent in the list.");
        due("an empty list", new EdgeIdeals().polarizedVariableCount(), 0);
        due("only the monomial 1", withList("1,1").polarizedVariableCount(), 0);
        due("the greatest number", withList("a3b3c3d3e3f3g3").polarizedVariableCount(), 21);
        due("the greatest number, from several elements", withList("a3,b3c3,a2d3e3f,f3g3").polarizedVariableCount(),
                21);
        due("greatest exponents, not sums", withList("a2b,ab2,a").polarizedVariableCount(), 4);
        says(64, ALL_SEVEN);
        EdgeIdeals x = withList("ag3");
        x.setVertexCount(1);
        due("a vertex that does not exist", x.polarizedVariableCount(), 4);

        says(65, "Returns the polarization of an element of the list as a bit set of polarized variables.",
                "`i`: the position, 0 for the first element", "Returns the bit set;",
                "They are numbered from 0, first those of variable 0, then those of variable 1, and so on.",
                "the first polarized variables of that variable, as many as its exponent in the element.");
        x = withList("a2g3,ac,1,b3");
        // a: 0, 1; b: 2, 3, 4; c: 5; g: 6, 7, 8.
        due("a2g3", x.polarized(0), 3 + (7 << 6));
        due("ac", x.polarized(1), 1 + (1 << 5));
        due("the monomial 1", x.polarized(2), 0);
        due("the last: b3", x.polarized(3), 7 << 2);
        due("all 21", withList("a3b3c3d3e3f3g3").polarized(0), (1 << 21) - 1);
        due("the highest bit", withList("a3b3c3d3e3f3,g3").polarized(1), 7 << 18);
        x.setVertexCount(1);
        due("a vertex that does not exist", x.polarized(0), 3 + (7 << 6));
        x = withList("g");
        fillList(x);
        due("the last of 24: a3bc", x.polarized(23), 7 + (1 << 3) + (1 << 6));
        says(65, "BAD_ARGUMENT if i is negative;");
        refusedEach("3 elements", (y, i) -> y.polarized(i), BAD_ARGUMENT, negative());
        refusedEach("an empty list", y -> y.clearList(), (y, i) -> y.polarized(i), BAD_ARGUMENT, negative());
        says(65, "NONE if i is not less than the size of the list.");
        refusedEach("an empty list", y -> y.clearList(), (y, i) -> y.polarized(i), NONE, tooGreat(0));
        refusedEach("3 elements", (y, i) -> y.polarized(i), NONE, tooGreat(3));
        refusedEach("a full list", Boundaries::fillList, (y, i) -> y.polarized(i), NONE, tooGreat(24));
    }

    private static void hitting() {
        says(66, "For an empty list this is 0.");
        due("a new list", new EdgeIdeals().hittingNumber(), 0);
        EdgeIdeals x = withList("a,b");
        x.clearList();
        due("a cleared list", x.hittingNumber(), 0);
        says(66, "Returns the smallest size of a set of variables such that each element of the list has a positive",
                "Returns the smallest size");
        due("one element", withList("a").hittingNumber(), 1);
        due("the same variable in all, with exponents 1, 2 and 3", withList("ab,a2c,a3d").hittingNumber(), 1);
        due("all 7", withList("a,b,c,d,e,f,g3").hittingNumber(), 7);
        due("the variable of most elements is not needed", withList("ab,ac,ad,be,cf,dg").hittingNumber(), 3);
        due("a cycle of 5", withList("ab,bc,cd,de,ae").hittingNumber(), 3);
        says(66, ALL_SEVEN);
        x = withList("f,g");
        x.setVertexCount(1);
        due("vertices that do not exist", x.hittingNumber(), 2);
        says(66, "NONE if the list contains the monomial 1.");
        refused("only 1", y -> parsed(y, "1"), y -> y.hittingNumber(), NONE);
        refused("1 at the end", y -> parsed(y, "a,b,1"), y -> y.hittingNumber(), NONE);
        refused("1 at the beginning", y -> parsed(y, "1,a"), y -> y.hittingNumber(), NONE);
        refused("the last of 24", y -> {
            y.clearList();
            fillList(y);
            y.reverseList();
        }, y -> y.hittingNumber(), NONE);
    }

    static void lookAt() {
        appending();
        filling();
        lookingUp();
        minimizing();
        reordering();
        divisors();
        polarizing();
        hitting();
    }
}
