/** Promises 27 to 39: generators of powers, and linear quotients. */
final class PowerBoundaries extends Boundaries {
    interface Step {
        long on(EdgeIdeals x, int s, int order, int i);
    }

    private static final String POWER = "`s`: the power, 1 to 3";
    private static final String POWER_OUT = "BAD_ARGUMENT if s is out of range";

    private static void allEdges(EdgeIdeals x) {
        x.setVertexCount(7);
        x.build(3);
    }

    private static void generators() {
        says(27, "Returns the number of minimal generators of the s-th power of the edge ideal.", POWER,
                "Returns the number of minimal generators",
                "A minimal generator of an ordinary or symbolic power is a monomial in it that no other monomial in it");
        for (int s = 1; s <= 3; s++) {
            due("no edges, power " + s, graph(7, 0).generatorCount(s), 0);
            due("one vertex, power " + s, graph(1, 0).generatorCount(s), 0);
            due("one edge, power " + s, graph(2, 3).generatorCount(s), 1);
        }
        due("all edges, power 1", graph(7, 3).generatorCount(1), 21);
        // Of all edges: x1^2 x2^2, x1^2 x2 x3 and x1 x2 x3 x4.
        due("all edges, power 2", graph(7, 3).generatorCount(2), 21 + 105 + 35);
        due("the most generators", graph(7, 3).generatorCount(3), 728);
        due("products that are equal count once", graph(4, 1).generatorCount(2), 9);
        says(27, POWER_OUT);
        refusedEach("generatorCount", (x, s) -> x.generatorCount(s), BAD_ARGUMENT, outside(1, 3));

        says(28, "Returns a minimal generator of the s-th power",
                "The generators are numbered from 0 in descending order",
                "Returns the code;", POWER, "`i`: the number of the generator",
                "Its exponents are at most 3, because s is at most 3.");
        EdgeIdeals x = graph(7, 3);
        due("the first of power 1", x.generator(1, 0), F + G);
        due("the last of power 1", x.generator(1, 20), A + B);
        due("the first of power 3", x.generator(3, 0), 3 * F + 3 * G);
        due("the second of power 3", x.generator(3, 1), E + 2 * F + 3 * G);
        due("the last of power 3", x.generator(3, 727), 3 * A + 3 * B);
        due("one edge, power 3", graph(2, 3).generator(3, 0), 15);
        says(28, "BAD_ARGUMENT if s is out of range or i is negative;");
        refusedEach("generator(.., 0)", (y, s) -> y.generator(s, 0), BAD_ARGUMENT, outside(1, 3));
        refusedEach("generator(.., 999)", (y, s) -> y.generator(s, 999), BAD_ARGUMENT, outside(1, 3));
        refusedEach("generator(1, ..)", (y, i) -> y.generator(1, i), BAD_ARGUMENT, negative());
        refusedEach("no edges", y -> y.build(0), (y, i) -> y.generator(3, i), BAD_ARGUMENT, negative());
        refused("both", y -> y.generator(0, -1), BAD_ARGUMENT);
        says(28, "NONE if i is not less than the number of generators.");
        refusedEach("no edges", y -> y.build(0), (y, i) -> y.generator(1, i), NONE, tooGreat(0));
        refusedEach("6 edges", (y, i) -> y.generator(1, i), NONE, tooGreat(6));
        refusedEach("728 generators", PowerBoundaries::allEdges, (y, i) -> y.generator(3, i), NONE, tooGreat(728));
    }

    private static void symbolicGenerators() {
        says(29, "Returns the number of minimal generators of the s-th symbolic power.", POWER,
                "Returns the number of minimal generators",
                "A monomial lies in the s-th symbolic power if its symbolic order is at least s.");
        for (int s = 1; s <= 3; s++) {
            due("no edges, power " + s, graph(7, 0).symbolicGeneratorCount(s), 0);
            due("one vertex, power " + s, graph(1, 0).symbolicGeneratorCount(s), 0);
            due("one edge, power " + s, graph(2, 3).symbolicGeneratorCount(s), 1);
        }
        // Of all edges: x1 x2; x1 x2 x3 and x1^2 x2^2; x1 x2 x3 x4, x1^2 x2^2 x3 and x1^3 x2^3.
        due("all edges, power 1", graph(7, 3).symbolicGeneratorCount(1), 21);
        due("all edges, power 2", graph(7, 3).symbolicGeneratorCount(2), 35 + 21);
        due("all edges, power 3", graph(7, 3).symbolicGeneratorCount(3), 35 + 105 + 21);
        says(29, POWER_OUT);
        refusedEach("symbolicGeneratorCount", (x, s) -> x.symbolicGeneratorCount(s), BAD_ARGUMENT, outside(1, 3));

        says(30, "Returns a minimal generator of the s-th symbolic power.", "Returns the code;", POWER,
                "The generators are numbered from 0 in descending order of their codes.",
                "`i`: the number of the generator", "Its exponents are at most 3, because s is at most 3.");
        EdgeIdeals x = graph(7, 3);
        due("the first of power 1", x.symbolicGenerator(1, 0), F + G);
        due("the last of power 1", x.symbolicGenerator(1, 20), A + B);
        due("the first of power 3", x.symbolicGenerator(3, 0), 3 * F + 3 * G);
        due("the last of power 3", x.symbolicGenerator(3, 160), 3 * A + 3 * B);
        due("the last but one of power 2", graph(3, 3).symbolicGenerator(2, 2), A + B + C);
        says(30, "BAD_ARGUMENT if s is out of range or i is negative;");
        refusedEach("symbolicGenerator(.., 0)", (y, s) -> y.symbolicGenerator(s, 0), BAD_ARGUMENT, outside(1, 3));
        refusedEach("symbolicGenerator(.., 999)", (y, s) -> y.symbolicGenerator(s, 999), BAD_ARGUMENT, outside(1, 3));
        refusedEach("symbolicGenerator(1, ..)", (y, i) -> y.symbolicGenerator(1, i), BAD_ARGUMENT, negative());
        refusedEach("no edges", y -> y.build(0), (y, i) -> y.symbolicGenerator(3, i), BAD_ARGUMENT, negative());
        refused("both", y -> y.symbolicGenerator(4, -1), BAD_ARGUMENT);
        says(30, "NONE if i is not less than the number of generators.");
        refusedEach("no edges", y -> y.build(0), (y, i) -> y.symbolicGenerator(1, i), NONE, tooGreat(0));
        refusedEach("6 edges", (y, i) -> y.symbolicGenerator(1, i), NONE, tooGreat(6));
        refusedEach("161 generators", PowerBoundaries::allEdges, (y, i) -> y.symbolicGenerator(3, i), NONE,
                tooGreat(161));
    }

    private static void agreement() {
        says(31, "Returns whether the s-th power and the s-th symbolic power have the same minimal generators.", POWER,
                "Returns 1 if they have, 0 if not");
        for (int s = 1; s <= 3; s++) {
            due("no edges, power " + s, graph(7, 0).powersAgree(s), 1);
            due("one vertex, power " + s, graph(1, 0).powersAgree(s), 1);
            due("a cycle of 6, power " + s, graph(6, 1).powersAgree(s), 1);
            due("a cycle of 3, power " + s, graph(3, 1).powersAgree(s), s == 1 ? 1 : 0);
            due("a cycle of 5, power " + s, graph(5, 1).powersAgree(s), s <= 2 ? 1 : 0);
            due("a cycle of 7, power " + s, graph(7, 1).powersAgree(s), 1);
        }
        says(31, POWER_OUT);
        refusedEach("powersAgree", (x, s) -> x.powersAgree(s), BAD_ARGUMENT, outside(1, 3));

        says(32,
                "Returns the lowest code of a minimal generator of the s-th symbolic power that does not lie in the s-th",
                "Returns the code;", POWER);
        due("a triangle", graph(3, 3).firstDifference(2), A + B + C);
        due("the lowest of 35", graph(7, 3).firstDifference(2), A + B + C);
        due("the lowest is not of the lowest degree", graph(4, 3).firstDifference(3), 2 * A + 2 * B + C);
        due("the last vertices", withEdges(7, 45, 56, 64).firstDifference(2), E + F + G);
        due("a cycle of 5", graph(5, 1).firstDifference(3), 341);
        says(32, "NONE if there is no such generator.");
        for (int s = 1; s <= 3; s++) {
            int power = s;
            refused("no edges, power " + s, x -> x.build(0), x -> x.firstDifference(power), NONE);
            refused("a star, power " + s, x -> x.build(4), x -> x.firstDifference(power), NONE);
            refused("a cycle of 7, power " + s, x -> {
                x.setVertexCount(7);
                x.build(1);
            }, x -> x.firstDifference(power), NONE);
        }
        refused("the first power always agrees", x -> x.build(3), x -> x.firstDifference(1), NONE);
        refused("a cycle of 5, power 2", x -> x.build(1), x -> x.firstDifference(2), NONE);
        says(32, "BAD_ARGUMENT if s is out of range;");
        refusedEach("firstDifference", (x, s) -> x.firstDifference(s), BAD_ARGUMENT, outside(1, 3));
    }

    private static void counts() {
        String degree = "`degree`: the degree, 0 to 21";
        says(33, "Counts the monomials of a given degree that lie in the s-th power.", POWER, degree,
                "Returns the number of monomials");
        due("degree 0", graph(7, 3).countInPower(1, 0), 0);
        due("degree 1", graph(7, 3).countInPower(1, 1), 0);
        due("degree 2: the edges", graph(7, 3).countInPower(1, 2), 21);
        due("degree 6, power 3: the generators", graph(7, 3).countInPower(3, 6), 728);
        due("degree 5, power 3", graph(7, 3).countInPower(3, 5), 0);
        due("degree 21", graph(7, 3).countInPower(3, 21), 1);
        due("degree 20", graph(7, 3).countInPower(3, 20), 7);
        due("no edges", graph(7, 0).countInPower(1, 21), 0);
        due("not all: the center of a star at least three times", graph(7, 4).countInPower(3, 20), 6);
        says(33, "Only valid codes are counted, so all exponents are at most 3.");
        due("2 vertices, degree 4: a2b2, ab3, a3b", graph(2, 3).countInPower(1, 4), 3);
        due("2 vertices, degree 6", graph(2, 3).countInPower(1, 6), 1);
        due("2 vertices, degree 7", graph(2, 3).countInPower(1, 7), 0);
        due("2 vertices, degree 21", graph(2, 3).countInPower(1, 21), 0);
        due("1 vertex, degree 3", graph(1, 3).countInPower(1, 3), 0);
        says(33, "BAD_ARGUMENT if s or degree is out of range.");
        refusedEach("countInPower(.., 2)", (x, s) -> x.countInPower(s, 2), BAD_ARGUMENT, outside(1, 3));
        refusedEach("countInPower(1, ..)", (x, d) -> x.countInPower(1, d), BAD_ARGUMENT, outside(0, 21));
        refused("both", x -> x.countInPower(0, 22), BAD_ARGUMENT);

        says(34, "Counts the monomials of a given degree that lie in the s-th symbolic power.", POWER, degree,
                "Returns the number of monomials");
        due("degree 0", graph(7, 3).countInSymbolicPower(1, 0), 0);
        due("degree 1", graph(7, 3).countInSymbolicPower(1, 1), 0);
        due("degree 2: the edges", graph(7, 3).countInSymbolicPower(1, 2), 21);
        due("degree 3, power 2", graph(7, 3).countInSymbolicPower(2, 3), 35);
        due("degree 3, power 3", graph(7, 3).countInSymbolicPower(3, 3), 0);
        due("degree 4, power 3", graph(7, 3).countInSymbolicPower(3, 4), 35);
        due("degree 21", graph(7, 3).countInSymbolicPower(3, 21), 1);
        due("no edges", graph(7, 0).countInSymbolicPower(1, 21), 0);
        due("not all: the center of a star at least three times", graph(7, 4).countInSymbolicPower(3, 20), 6);
        says(34, "Only valid codes are counted.");
        due("2 vertices, degree 4: a2b2, ab3, a3b", graph(2, 3).countInSymbolicPower(1, 4), 3);
        due("2 vertices, degree 6", graph(2, 3).countInSymbolicPower(1, 6), 1);
        due("2 vertices, degree 7", graph(2, 3).countInSymbolicPower(1, 7), 0);
        due("2 vertices, degree 21", graph(2, 3).countInSymbolicPower(1, 21), 0);
        says(34, "BAD_ARGUMENT if s or degree is out of range.");
        refusedEach("countInSymbolicPower(.., 2)", (x, s) -> x.countInSymbolicPower(s, 2), BAD_ARGUMENT, outside(1, 3));
        refusedEach("countInSymbolicPower(1, ..)", (x, d) -> x.countInSymbolicPower(1, d), BAD_ARGUMENT, outside(0,
                21));
        refused("both", x -> x.countInSymbolicPower(4, -1), BAD_ARGUMENT);
    }

    /** Numbers that are no vertex order of 5 vertices: too short, too long, 0, 6 or 9 in it, a digit twice, below 0. */
    private static final int[] NO_ORDERS = {0, 1, 1234, 2345, 123451, 112345, 612345, 123450, 12340, 10234, 2340, 12346,
        92345, 12355, 11345, 11111, -12345, -1, 54320, 1234567, LOW, HIGH, 1000012345, 2000012345};

    /** Too low, too great, and numbers that are orders of fewer or more vertices. */
    private static final int[] NO_ORDERS_OF_ONE = {0, 2, 10, 11, 12, -1, LOW, HIGH};
    private static final int[] NO_ORDERS_OF_SEVEN = {123456, 1234568, 12345678, 1234566, 234567, 11234567, 7654320,
        765432, -1234567, LOW, HIGH};

    private static void wrongOrders(String what, CallWith call, long want) {
        refusedEach(what + " of 5 vertices", call, want, NO_ORDERS);
        refusedEach(what + " without edges", x -> x.build(0), call, want, NO_ORDERS);
        refusedEach(what + " of 1 vertex", x -> x.setVertexCount(1), call, want, NO_ORDERS_OF_ONE);
        refusedEach(what + " of 7 vertices", x -> x.setVertexCount(7), call, want, NO_ORDERS_OF_SEVEN);
    }

    private static void wrongSteps(Step step) {
        refusedEach("power", (x, s) -> step.on(x, s, 12345, 0), BAD_ARGUMENT, outside(1, 3));
        refusedEach("power, i too great besides", (x, s) -> step.on(x, s, 12345, 99), BAD_ARGUMENT, outside(1, 3));
        wrongOrders("order", (x, order) -> step.on(x, 1, order, 0), BAD_ARGUMENT);
        wrongOrders("order, i too great besides", (x, order) -> step.on(x, 1, order, 99), BAD_ARGUMENT);
        refusedEach("position", (x, i) -> step.on(x, 1, 12345, i), BAD_ARGUMENT, negative());
        refusedEach("position without edges", x -> x.build(0), (x, i) -> step.on(x, 1, 12345, i), BAD_ARGUMENT,
                negative());
        refused("all three", x -> step.on(x, 0, 0, -1), BAD_ARGUMENT);
    }

    private static void stepsTooFar(Step step) {
        refusedEach("6 edges", (x, i) -> step.on(x, 1, 12345, i), NONE, tooGreat(6));
        refusedEach("no edges", x -> x.build(0), (x, i) -> step.on(x, 1, 12345, i), NONE, tooGreat(0));
        refusedEach("one vertex", x -> x.setVertexCount(1), (x, i) -> step.on(x, 1, 1, i), NONE, tooGreat(0));
        refusedEach("728 generators", PowerBoundaries::allEdges, (x, i) -> step.on(x, 3, 7654321, i), NONE,
                tooGreat(728));
    }

    private static void orderedGenerators() {
        says(35, "Returns a minimal generator of the s-th power by its position in the lexicographic order", POWER,
                "`order`: a vertex order", "`i`: the position, 0 for the first generator", "Returns the code;",
                "A vertex order defines a lexicographic order of monomials",
                "The minimal generators of a power are taken in this order.");
        EdgeIdeals x = graph(7, 3);
        due("the lowest order, the first", x.orderedGenerator(1, 1234567, 0), A + B);
        due("the lowest order, the last", x.orderedGenerator(1, 1234567, 20), F + G);
        due("the greatest order, the first", x.orderedGenerator(3, 7654321, 0), 3 * F + 3 * G);
        due("the greatest order, the last", x.orderedGenerator(3, 7654321, 727), 3 * A + 3 * B);
        due("the first in another order", x.orderedGenerator(2, 3715246, 0), 2 * C + 2 * G);
        due("the second", x.orderedGenerator(2, 3715246, 1), 2 * C + G + A);
        due("the last in another order", x.orderedGenerator(2, 3715246, 160), 2 * D + 2 * F);
        due("two vertices", graph(2, 3).orderedGenerator(3, 21, 0), 15);
        orderedAnew();
        says(35, "A vertex order is a decimal number with one digit for each vertex.",
                "The digits, from the most significant one, are vertex numbers plus 1, and each vertex occurs exactly once.");
        due("one vertex: 1", graph(1, 0).orderedGenerator(1, 1, 0), NONE);
        due("one vertex: 2", graph(1, 0).orderedGenerator(1, 2, 0), BAD_ARGUMENT);
        due("the most significant digit counts first", graph(3, 2).orderedGenerator(1, 321, 0), B + C);
        due("the most significant digit counts first", graph(3, 2).orderedGenerator(1, 123, 0), A + B);
        wrongOrders("orderedGenerator", (y, order) -> y.orderedGenerator(2, order, 0), BAD_ARGUMENT);
        says(35, "BAD_ARGUMENT if s is out of range, order is not a vertex order or i is negative;");
        wrongSteps((y, s, order, i) -> y.orderedGenerator(s, order, i));
        says(35, "NONE if i is not less than the number of generators.");
        stepsTooFar((y, s, order, i) -> y.orderedGenerator(s, order, i));
        due("the last one is there", furnished().orderedGenerator(1, 12345, 5), D + E);
    }

    /** Whatever was asked before, of the same object, the order, the power and the graph of the call count. */
    private static void orderedAnew() {
        EdgeIdeals x = graph(4, 2);
        due("an order", x.orderedGenerator(1, 1234, 0), A + B);
        due("another order", x.orderedGenerator(1, 4321, 0), C + D);
        due("0 is no order", x.orderedGenerator(1, 0, 0), BAD_ARGUMENT);
        due("the order once more", x.orderedGenerator(1, 4321, 0), C + D);
        due("no order", x.orderedGenerator(1, 4320, 0), BAD_ARGUMENT);
        due("after no order", x.orderedGenerator(1, 4321, 0), C + D);
        due("an order of which only the end is wrong", x.orderedGenerator(1, 1134, 0), BAD_ARGUMENT);
        due("its colon variables afterwards", x.colonVariables(1, 4321, 1), 8);
        due("another power", x.orderedGenerator(2, 4321, 0), 2 * C + 2 * D);
        due("the first power again", x.orderedGenerator(1, 4321, 2), A + B);
        x.toggleEdge(2, 3);
        due("after toggleEdge", x.orderedGenerator(1, 4321, 0), B + C);
        x.revertChange();
        due("after revertChange", x.orderedGenerator(1, 4321, 0), C + D);
        x.build(4);
        due("after build", x.orderedGenerator(1, 4321, 0), A + D);
        x.takeSnapshot();
        x.build(3);
        due("after another build", x.orderedGenerator(1, 4321, 1), B + D);
        x.restoreSnapshot();
        due("after restoreSnapshot", x.orderedGenerator(1, 4321, 1), A + C);
        x.setVertexCount(4);
        due("after setVertexCount", x.orderedGenerator(1, 4321, 0), NONE);
        x.setVertexCount(5);
        due("an order of fewer vertices", x.orderedGenerator(1, 4321, 0), BAD_ARGUMENT);
    }

    private static void colonVariables() {
        says(36, "Returns the colon variables of a generator as a bit set of vertices", POWER,
                "`order`: a vertex order",
                "some earlier generator has exactly one more exponent of v than g and no greater exponent than g at any",
                "`i`: the position, 0 for the first generator", "Returns the bit set;");
        due("the first: none is earlier", graph(7, 3).colonVariables(3, 1234567, 0), 0);
        due("only one generator", graph(2, 3).colonVariables(3, 12, 0), 0);
        EdgeIdeals x = graph(7, 4);
        for (int i = 0; i < 6; i++) {
            due("a star, position " + i, x.colonVariables(1, 1234567, i), (2 << i) - 2);
        }
        // The last two are ef2g3 and f3g3, whose f cannot become greater.
        due("the most: all vertices but the last of the order", graph(7, 3).colonVariables(3, 1234567, 726), 63);
        due("an exponent that is 3 already", graph(7, 3).colonVariables(3, 1234567, 727), 31);
        due("the same from the other side", graph(7, 3).colonVariables(3, 7654321, 726), 126);
        due("the same from the other side", graph(7, 3).colonVariables(3, 7654321, 727), 124);
        // ab, then cd: a and b are greater by one each, but both at once.
        due("greater at two vertices", withEdges(4, 1, 23).colonVariables(1, 1234, 1), 0);
        // a2b2, abcd, c2d2: not ab cd, which exceeds c2d2 at two vertices.
        due("greater by two, or at two vertices", withEdges(4, 1, 23).colonVariables(2, 1234, 2), 0);
        // Path: ab, bc, cd. bc is earlier than cd and has one more b; ab exceeds cd at two vertices.
        due("one of the earlier ones", graph(4, 2).colonVariables(1, 1234, 2), 2);
        // A star's second power in the order of the numbers: a2b2, a2bc, a2c2; a2b2 has two more b than a2c2.
        due("exactly one more", graph(3, 4).colonVariables(2, 123, 2), 2);
        says(36, "BAD_ARGUMENT and NONE as for orderedGenerator.");
        wrongSteps((y, s, order, i) -> y.colonVariables(s, order, i));
        stepsTooFar((y, s, order, i) -> y.colonVariables(s, order, i));
    }

    private static void linearSteps() {
        says(37, "The first generator's step is linear.");
        due("7 vertices", graph(7, 3).isLinearStep(3, 7654321, 0), 1);
        due("of two without a shared vertex", withEdges(4, 1, 23).isLinearStep(1, 1234, 0), 1);
        due("the only one", graph(2, 3).isLinearStep(3, 21, 0), 1);
        says(37, "Returns whether the step of a generator is linear", "Returns 1 if it is linear, 0 if not;", POWER,
                "`order`: a vertex order", "`i`: the position, 0 for the first generator",
                "The step of g is linear if for each earlier generator h there is a colon variable of g whose exponent");
        due("no colon variable", withEdges(4, 1, 23).isLinearStep(1, 1234, 1), 0);
        due("for each earlier generator", graph(4, 2).isLinearStep(1, 1234, 2), 1);
        // ab, bc, de, ef in a path of 6 without cd: ef has the colon variable d, but d is in neither ab nor bc.
        due("for some, not for each", withEdges(6, 1, 12, 34, 45).isLinearStep(1, 123456, 3), 0);
        due("the colon variable of that one", withEdges(6, 1, 12, 34, 45).colonVariables(1, 123456, 3), 8);
        due("the last of all edges", graph(7, 3).isLinearStep(3, 1234567, 727), 1);
        says(37, "BAD_ARGUMENT and NONE as for orderedGenerator.");
        wrongSteps((y, s, order, i) -> y.isLinearStep(s, order, i));
        stepsTooFar((y, s, order, i) -> y.isLinearStep(s, order, i));

        says(38, "Returns the position of the first generator whose step is not linear.", "Returns the position;",
                POWER,
                "`order`: a vertex order");
        due("the second of two", withEdges(4, 1, 23).firstNonLinearStep(1, 1234), 1);
        due("not the last of two that are not linear", withEdges(6, 1, 23, 45).firstNonLinearStep(1, 123456), 1);
        due("the last", withEdges(5, 1, 2, 34).firstNonLinearStep(1, 12345), 2);
        due("power 3", withEdges(4, 1, 23).firstNonLinearStep(3, 4321), 1);
        says(38, "NONE if all steps are linear, even if there are no generators.");
        for (int s = 1; s <= 3; s++) {
            int power = s;
            refused("no generators, power " + s, x -> x.build(0), x -> x.firstNonLinearStep(power, 12345), NONE);
            refused("one vertex, power " + s, x -> x.setVertexCount(1), x -> x.firstNonLinearStep(power, 1), NONE);
            refused("728 linear steps or fewer, power " + s, PowerBoundaries::allEdges,
                    x -> x.firstNonLinearStep(power, 1234567), NONE);
        }
        refused("one generator", x -> {
            x.setVertexCount(2);
            x.build(3);
        }, x -> x.firstNonLinearStep(2, 21), NONE);
        says(38, "BAD_ARGUMENT if s is out of range or order is not a vertex order;");
        refusedEach("power", (x, s) -> x.firstNonLinearStep(s, 12345), BAD_ARGUMENT, outside(1, 3));
        refusedEach("power without edges", x -> x.build(0), (x, s) -> x.firstNonLinearStep(s, 12345), BAD_ARGUMENT,
                outside(1, 3));
        wrongOrders("order", (x, order) -> x.firstNonLinearStep(1, order), BAD_ARGUMENT);
        refused("both", x -> x.firstNonLinearStep(4, 0), BAD_ARGUMENT);
    }

    private static void bettiNumbers() {
        says(39, "`k`: the index of the Betti number, 0 to 7", POWER, "`order`: a vertex order",
                "the sum, over all minimal generators, of the binomial coefficient (size of the set of colon variables)",
                "Returns the sum;");
        // A star of 7: 0 to 5 colon variables, so the sums are 6 choose k + 1.
        long[] star = {6, 15, 20, 15, 6, 1, 0, 0};
        for (int k = 0; k <= 7; k++) {
            due("a star, " + k, graph(7, 4).bettiNumber(1, 1234567, k), star[k]);
            due("no edges, " + k, graph(7, 0).bettiNumber(1, 1234567, k), 0);
            due("one generator, " + k, graph(2, 3).bettiNumber(3, 12, k), k == 0 ? 1 : 0);
        }
        due("the most generators", graph(7, 3).bettiNumber(3, 7654321, 0), 728);
        due("6 of 6 colon variables", graph(7, 3).bettiNumber(3, 7654321, 7), 0);
        due("one vertex", graph(1, 0).bettiNumber(1, 1, 0), 0);
        says(39, "NO_VALUE if s or k is out of range, order is not a vertex order, or some step is not linear.",
                "It is defined only if all steps are linear.");
        refusedEach("power", x -> x.build(3), (x, s) -> x.bettiNumber(s, 12345, 0), NO_VALUE, outside(1, 3));
        refusedEach("index", x -> x.build(3), (x, k) -> x.bettiNumber(1, 12345, k), NO_VALUE, outside(0, 7));
        refusedEach("index without edges", x -> x.build(0), (x, k) -> x.bettiNumber(1, 12345, k), NO_VALUE,
                outside(0, 7));
        wrongOrders("order", (x, order) -> x.bettiNumber(1, order, 0), NO_VALUE);
        for (int k = 0; k <= 7; k++) {
            int index = k;
            refused("a step that is not linear, " + k, x -> {
                x.setVertexCount(4);
                addEdges(x, 1, 23);
            }, x -> x.bettiNumber(1, 1234, index), NO_VALUE);
        }
        refused("only the last step is not linear", x -> {
            x.build(0);
            addEdges(x, 1, 2, 34);
        }, x -> x.bettiNumber(1, 12345, 0), NO_VALUE);
        due("all steps are linear in another order", graph(4, 2).bettiNumber(1, 3214, 0), 3);
        due("some are not in this order", graph(4, 2).bettiNumber(1, 1423, 0), NO_VALUE);
    }

    static void lookAt() {
        generators();
        symbolicGenerators();
        agreement();
        counts();
        orderedGenerators();
        colonVariables();
        linearSteps();
        bettiNumbers();
    }
}
