/** Promises 40 to 51: tests of monomials. */
final class TestBoundaries extends Boundaries {
    private static final String NUMBER = "Returns the number of the new test";
    private static final String OUT = "BAD_ARGUMENT if an argument is out of range (checked first);";
    private static final String EIGHT = "FULL if there are 8 tests.";
    private static final String ORDER = "There are at most 8 tests, numbered from 0 in the order in which they were added.";

    /** What the eight calls that add a test have in common: their numbers, and the limit. */
    private static void addedUpToEight(int promise, CallWith add, int good) {
        says(promise, NUMBER, ORDER);
        EdgeIdeals x = new EdgeIdeals();
        x.addSquareFreeTest();
        due("the second test", add.on(x, good), 1);
        for (int number = 2; number < 8; number++) {
            due("test " + number, add.on(x, good), number);
            due("testCount()", x.testCount(), number + 1);
        }
        says(promise, EIGHT, ORDER);
        due("a ninth test", add.on(x, good), FULL);
        refused("8 other tests", Boundaries::fillTests, y -> add.on(y, good), FULL);
    }

    private static void outOfRange(int promise, CallWith add, int... arguments) {
        says(promise, OUT);
        refusedEach("3 tests", add, BAD_ARGUMENT, arguments);
        refusedEach("8 tests", Boundaries::fillTests, add, BAD_ARGUMENT, arguments);
    }

    private static EdgeIdeals tested(int vertices, int kind, Call add) {
        EdgeIdeals x = graph(vertices, kind);
        add.on(x);
        return x;
    }

    private static void degreeTests() {
        addedUpToEight(40, (x, degree) -> x.addDegreeTest(degree), 5);
        outOfRange(40, (x, degree) -> x.addDegreeTest(degree), outside(0, 21));
        says(40, "`degree`: 0 to 21", "Adds a test that a monomial passes if its degree is the given one.");
        due("the first test, degree 0", new EdgeIdeals().addDegreeTest(0), 0);
        due("the first test, degree 21", new EdgeIdeals().addDegreeTest(21), 0);
        due("degree 0: only the monomial 1", tested(7, 0, x -> x.addDegreeTest(0)).passCount(0), 1);
        due("degree 0: the monomial 1", tested(7, 0, x -> x.addDegreeTest(0)).passing(0, 0), 0);
        due("degree 21: only the greatest code", tested(7, 0, x -> x.addDegreeTest(21)).passCount(0), 1);
        due("degree 21 of 6 vertices", tested(6, 0, x -> x.addDegreeTest(21)).passCount(0), 0);
        EdgeIdeals y = tested(2, 0, x -> x.addDegreeTest(3));
        due("the degree", y.passes(0, 2 * A + B), 1);
        due("one less", y.passes(0, A + B), 0);
        due("one more", y.passes(0, 2 * A + 2 * B), 0);
    }

    private static void exponentTests() {
        addedUpToEight(41, (x, least) -> x.addExponentTest(3, least), 2);
        outOfRange(41, (x, v) -> x.addExponentTest(v, 0), outside(0, 6));
        outOfRange(41, (x, least) -> x.addExponentTest(0, least), outside(0, 3));
        refused("both", x -> x.addExponentTest(7, 4), BAD_ARGUMENT);
        says(41, "`v`: 0 to 6", "`least`: 0 to 3",
                "Adds a test that a monomial passes if its exponent of variable v is at least the given one.");
        for (int v = 0; v <= 6; v++) {
            for (int least = 0; least <= 3; least++) {
                EdgeIdeals x = graph(7, 0);
                due("variable " + v + ", at least " + least, x.addExponentTest(v, least), 0);
                due("exponent " + least, x.passes(0, least << 2 * v), 1);
                due("one less", least == 0 ? 0 : x.passes(0, least - 1 << 2 * v), 0);
                due("all others, not this one", x.passes(0, 16383 - (3 << 2 * v)), least == 0 ? 1 : 0);
                due("passCount(0)", x.passCount(0), (4 - least) * 4096);
            }
        }
        says(41, "The exponent of a variable of a vertex that does not exist is 0.");
        EdgeIdeals x = new EdgeIdeals();
        due("vertex 4 of 4", x.addExponentTest(4, 1), 0);
        due("vertex 6 of 4", x.addExponentTest(6, 0), 1);
        due("at least 1: none passes", x.passCount(0), 0);
        due("at least 0: all pass", x.passCount(1), 256);
        due("at least 0: 1 passes", x.passes(1, 0), 1);
        x.setVertexCount(5);
        due("the vertex exists now", x.passCount(0), 768);
    }

    private static void squareFreeTests() {
        addedUpToEight(42, (x, unused) -> x.addSquareFreeTest(), 0);
        says(42, "Adds a test that a monomial passes if no exponent is greater than 1.");
        EdgeIdeals x = tested(7, 0, y -> y.addSquareFreeTest());
        due("the monomial 1", x.passes(0, 0), 1);
        due("all exponents are 1", x.passes(0, A + B + C + D + E + F + G), 1);
        due("passCount(0)", x.passCount(0), 128);
        for (int v = 0; v < 7; v++) {
            due("exponent 1 of " + v, x.passes(0, 1 << 2 * v), 1);
            due("exponent 2 of " + v, x.passes(0, 2 << 2 * v), 0);
            due("exponent 3 of " + v, x.passes(0, 3 << 2 * v), 0);
        }
    }

    private static void powerTests() {
        addedUpToEight(43, (x, s) -> x.addPowerTest(s), 3);
        outOfRange(43, (x, s) -> x.addPowerTest(s), outside(1, 3));
        says(43, "`s`: 1 to 3", "Adds a test that a monomial passes if it lies in the s-th power");
        for (int s = 1; s <= 3; s++) {
            int power = s;
            EdgeIdeals x = tested(2, 3, y -> y.addPowerTest(power));
            due("power order " + s, x.passes(0, s * (A + B)), 1);
            due("power order " + (s - 1), x.passes(0, (s - 1) * A + 3 * B), 0);
            due("passCount(0), power " + s, x.passCount(0), (4 - s) * (4 - s));
            due("no edges, power " + s, tested(7, 0, y -> y.addPowerTest(power)).passCount(0), 0);
        }
        due("a greater power order than 3", tested(7, 3, y -> y.addPowerTest(3)).passes(0, 16383), 1);
        due("symbolic order 2 is not enough", tested(3, 3, y -> y.addPowerTest(2)).passes(0, A + B + C), 0);
        says(43, "of the graph at the time of the check.");
        EdgeIdeals x = tested(2, 3, y -> y.addPowerTest(1));
        x.toggleEdge(0, 1);
        due("the edge is removed", x.passCount(0), 0);
        x.revertChange();
        due("the removal is reverted", x.passCount(0), 9);
        x.setVertexCount(3);
        due("the number of vertices changes", x.passCount(0), 0);
        x.toggleEdge(1, 2);
        due("another edge", x.passes(0, B + C), 1);
        due("not the old one", x.passes(0, A + B), 0);
    }

    private static void symbolicTests() {
        addedUpToEight(44, (x, s) -> x.addSymbolicTest(s), 1);
        outOfRange(44, (x, s) -> x.addSymbolicTest(s), outside(1, 3));
        says(44, "`s`: 1 to 3", "Adds a test that a monomial passes if it lies in the s-th symbolic power");
        for (int s = 1; s <= 3; s++) {
            int power = s;
            EdgeIdeals x = tested(2, 3, y -> y.addSymbolicTest(power));
            due("symbolic order " + s, x.passes(0, s * (A + B)), 1);
            due("symbolic order " + (s - 1), x.passes(0, (s - 1) * A + 3 * B), 0);
            due("passCount(0), power " + s, x.passCount(0), (4 - s) * (4 - s));
            due("no edges, power " + s, tested(7, 0, y -> y.addSymbolicTest(power)).passCount(0), 0);
        }
        due("a greater symbolic order than 3", tested(7, 3, y -> y.addSymbolicTest(3)).passes(0, 16383), 1);
        due("power order 1 does not matter", tested(3, 3, y -> y.addSymbolicTest(2)).passes(0, A + B + C), 1);
        says(44, "of the graph at the time of the check.");
        EdgeIdeals x = tested(2, 3, y -> y.addSymbolicTest(1));
        x.toggleEdge(0, 1);
        due("the edge is removed", x.passCount(0), 0);
        x.revertChange();
        due("the removal is reverted", x.passCount(0), 9);
        x.setVertexCount(3);
        due("the number of vertices changes", x.passCount(0), 0);
        x.toggleEdge(1, 2);
        due("another edge", x.passes(0, B + C), 1);
        due("not the old one", x.passes(0, A + B), 0);
    }

    private static void noSuchTests(int promise, CallWith add) {
        outOfRange(promise, (x, test) -> add.on(x, test), 8, -1, LOW, HIGH);
        refusedEach("3 tests: the new one itself, and later ones", add, BAD_ARGUMENT, 3, 4, 7);
        EdgeIdeals x = new EdgeIdeals();
        due("no test is there", add.on(x, 0), BAD_ARGUMENT);
        due("no test was added", x.testCount(), 0);
    }

    private static void andTests() {
        addedUpToEight(45, (x, test) -> x.addAndTest(test, test), 0);
        noSuchTests(45, (x, test) -> x.addAndTest(test, 0));
        noSuchTests(45, (x, test) -> x.addAndTest(0, test));
        noSuchTests(45, (x, test) -> x.addAndTest(test, test));
        says(45, "Adds a test that a monomial passes if it passes both of two existing tests.",
                "`first`: the number of an existing test");
        EdgeIdeals x = graph(2, 0);
        x.addExponentTest(0, 1);
        x.addExponentTest(1, 1);
        due("the first and the last test", x.addAndTest(0, 1), 2);
        due("neither", x.passes(2, 0), 0);
        due("only the first", x.passes(2, A), 0);
        due("only the second", x.passes(2, B), 0);
        due("both", x.passes(2, A + B), 1);
        says(45, "`second`: the number of an existing test, possibly the same");
        due("the same", x.addAndTest(1, 1), 3);
        due("it passes", x.passes(3, B), 1);
        due("it does not", x.passes(3, A), 0);
        due("made from one that was made", x.addAndTest(3, 2), 4);
        due("passCount(4)", x.passCount(4), 9);
    }

    private static void orTests() {
        addedUpToEight(46, (x, test) -> x.addOrTest(test, test), 0);
        noSuchTests(46, (x, test) -> x.addOrTest(test, 0));
        noSuchTests(46, (x, test) -> x.addOrTest(0, test));
        noSuchTests(46, (x, test) -> x.addOrTest(test, test));
        says(46, "Adds a test that a monomial passes if it passes at least one of two existing tests.",
                "`first`: the number of an existing test");
        EdgeIdeals x = graph(2, 0);
        x.addExponentTest(0, 1);
        x.addExponentTest(1, 1);
        due("the first and the last test", x.addOrTest(0, 1), 2);
        due("neither", x.passes(2, 0), 0);
        due("only the first", x.passes(2, A), 1);
        due("only the second", x.passes(2, B), 1);
        due("both", x.passes(2, A + B), 1);
        says(46, "`second`: the number of an existing test, possibly the same");
        due("the same", x.addOrTest(1, 1), 3);
        due("it passes", x.passes(3, B), 1);
        due("it does not", x.passes(3, A), 0);
        due("made from one that was made", x.addOrTest(3, 2), 4);
        due("passCount(4)", x.passCount(4), 15);
    }

    private static void notTests() {
        addedUpToEight(47, (x, test) -> x.addNotTest(test), 0);
        noSuchTests(47, (x, test) -> x.addNotTest(test));
        says(47, "Adds a test that a monomial passes if it does not pass an existing test.",
                "`test`: the number of an existing test", "A test either accepts a monomial or does not.");
        EdgeIdeals x = graph(2, 0);
        x.addDegreeTest(0);
        due("the only test", x.addNotTest(0), 1);
        due("the others pass", x.passCount(1), 15);
        due("passes(0, 0)", x.passes(0, 0), 1);
        due("passes(1, 0)", x.passes(1, 0), 0);
        due("not a test that is not", x.addNotTest(1), 2);
        due("as the first", x.passCount(2), 1);

        says(47, "A test that was made from other tests uses those tests as they were when it was made.");
        x = graph(2, 0);
        x.addDegreeTest(1);
        x.takeSnapshot();
        x.addExponentTest(0, 3);
        x.addNotTest(1);
        due("not three a", x.passCount(2), 12);
        x.restoreSnapshot();
        due("only the first test is left", x.testCount(), 1);
        x.addDegreeTest(0);
        due("made from another test 1", x.addNotTest(1), 2);
        due("not the monomial 1", x.passCount(2), 15);
        x.addAndTest(2, 0);
        x.addOrTest(3, 1);
        x.setVertexCount(1);
        due("all of them, with another graph", x.passCount(4), 2);
    }

    private static void asking() {
        says(48, "Returns the number of tests, 0 to 8.", "Returns the number of tests.", ORDER);
        EdgeIdeals x = new EdgeIdeals();
        due("none", x.testCount(), 0);
        x.addSquareFreeTest();
        due("one", x.testCount(), 1);
        fillTests(x);
        due("8", x.testCount(), 8);
        x.addSquareFreeTest();
        due("8 after a refused one", x.testCount(), 8);

        says(49, "Returns whether a monomial passes a test.", "`test`: the number of an existing test",
                "`m`: a monomial code", "Returns 1 if it passes, 0 if not;");
        due("the first test, the lowest code", x.passes(0, 0), 1);
        due("the last test, the lowest code", x.passes(7, 0), 0);
        due("the first test, the greatest code", x.passes(0, 255), 0);
        due("the last test", x.passes(7, 3 * A + 3 * B + C), 1);
        says(49, "BAD_ARGUMENT if there is no such test or m is not a valid code.");
        refusedEach("3 tests", (y, test) -> y.passes(test, 0), BAD_ARGUMENT, outside(0, 2));
        refusedEach("8 tests", Boundaries::fillTests, (y, test) -> y.passes(test, 0), BAD_ARGUMENT, outside(0, 7));
        refusedEach("a code", (y, m) -> y.passes(0, m), BAD_ARGUMENT, outside(0, 1023));
        refusedEach("a code of 1 vertex", y -> y.setVertexCount(1), (y, m) -> y.passes(0, m), BAD_ARGUMENT,
                outside(0, 3));
        refusedEach("a code of 7 vertices", y -> y.setVertexCount(7), (y, m) -> y.passes(0, m), BAD_ARGUMENT,
                outside(0, 16383));
        refused("both", y -> y.passes(3, -1), BAD_ARGUMENT);
        due("no test is there", new EdgeIdeals().passes(0, 0), BAD_ARGUMENT);

        says(50, "Returns the number of valid monomial codes that pass a test.",
                "`test`: the number of an existing test",
                "Returns the number of codes");
        x = new EdgeIdeals();
        x.addExponentTest(6, 1);
        x.addExponentTest(6, 0);
        due("none", x.passCount(0), 0);
        due("all of 4 vertices", x.passCount(1), 256);
        x.setVertexCount(1);
        due("all of 1 vertex", x.passCount(1), 4);
        x.setVertexCount(7);
        due("all of 7 vertices", x.passCount(1), 16384);
        says(50, "BAD_ARGUMENT if there is no such test.");
        refusedEach("3 tests", (y, test) -> y.passCount(test), BAD_ARGUMENT, outside(0, 2));
        refusedEach("8 tests", Boundaries::fillTests, (y, test) -> y.passCount(test), BAD_ARGUMENT, outside(0, 7));
        due("no test is there", new EdgeIdeals().passCount(0), BAD_ARGUMENT);

        passing(x);
    }

    private static void passing(EdgeIdeals x) {
        says(51, "Returns a monomial that passes a test.", "`test`: the number of an existing test",
                "Returns the code;",
                "The monomials that pass are numbered from 0 in ascending order of their codes.",
                "`i`: the number of the monomial");
        due("the first of all", x.passing(1, 0), 0);
        due("the last of all", x.passing(1, 16383), 16383);
        due("the first with g", x.passing(0, 0), G);
        due("the second with g", x.passing(0, 1), G + A);
        due("the last with g", x.passing(0, 12287), 16383);
        says(51, "NONE if i is not less than the number of monomials that pass.");
        refusedEach("none passes", y -> {
            fillTests(y);
            y.setVertexCount(2);
        }, (y, i) -> y.passing(7, i), NONE, tooGreat(0));
        refusedEach("one passes", y -> {
            y.addDegreeTest(0);
        }, (y, i) -> y.passing(3, i), NONE, tooGreat(1));
        refusedEach("all pass", y -> {
            y.addExponentTest(6, 0);
            y.setVertexCount(7);
        }, (y, i) -> y.passing(3, i), NONE, tooGreat(16384));
        says(51, "BAD_ARGUMENT if there is no such test or i is negative;");
        refusedEach("3 tests", (y, test) -> y.passing(test, 0), BAD_ARGUMENT, outside(0, 2));
        refusedEach("3 tests, i too great besides", (y, test) -> y.passing(test, 99999), BAD_ARGUMENT, outside(0, 2));
        refusedEach("8 tests", Boundaries::fillTests, (y, test) -> y.passing(test, 0), BAD_ARGUMENT, outside(0, 7));
        refusedEach("i", (y, i) -> y.passing(0, i), BAD_ARGUMENT, negative());
        refusedEach("i, none passes", y -> {
            fillTests(y);
            y.setVertexCount(2);
        }, (y, i) -> y.passing(7, i), BAD_ARGUMENT, negative());
        refused("both", y -> y.passing(3, -1), BAD_ARGUMENT);
        due("no test is there", new EdgeIdeals().passing(0, 0), BAD_ARGUMENT);
    }

    static void lookAt() {
        degreeTests();
        exponentTests();
        squareFreeTests();
        powerTests();
        symbolicTests();
        andTests();
        orTests();
        notTests();
        asking();
    }
}
