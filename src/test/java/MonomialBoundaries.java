/** Promises 19 to 26: monomial codes. */
final class MonomialBoundaries extends Boundaries {
    interface TwoCodes {
        long on(EdgeIdeals x, int a, int b);
    }

    private static final String CODES = "Valid codes are 0 to 4 to the power n, minus 1, where n is the number of vertices.";

    private static final int[] GREATEST = {0, 3, 15, 63, 255, 1023, 4095, 16383};

    /** For each number of vertices, the codes just outside of the range, among them those valid with more vertices. */
    private static void invalidCodes(String what, CallWith call) {
        for (int n = 1; n <= 7; n++) {
            int vertices = n;
            refusedEach(what + " with " + n + " vertices", x -> {
                x.setVertexCount(vertices);
                x.build(3);
            }, call, BAD_ARGUMENT, GREATEST[n] + 1, -1, LOW, HIGH);
        }
        refused(what + ", valid with 7 vertices", x -> x.setVertexCount(6), x -> call.on(x, 16383), BAD_ARGUMENT);
    }

    private static void invalidPairs(String what, TwoCodes call) {
        invalidCodes(what + "(.., 0)", (x, a) -> call.on(x, a, 0));
        invalidCodes(what + "(0, ..)", (x, b) -> call.on(x, 0, b));
        invalidCodes(what + " of two", (x, m) -> call.on(x, m, m));
    }

    private static void degrees() {
        says(19, "`m`: a monomial code", CODES, "Code 0 is the monomial 1.", "The exponent of each variable is 0 to 3.",
                "Returns the degree of a monomial, the sum of its exponents.", "Returns the degree",
                "There is one variable for each vertex.");
        for (int n = 1; n <= 7; n++) {
            due("the lowest code, " + n + " vertices", graph(n, 0).degree(0), 0);
            due("the greatest code, " + n + " vertices", graph(n, 0).degree(GREATEST[n]), 3 * n);
        }
        due("exponents 1, 2 and 3", graph(3, 0).degree(A + 2 * B + 3 * C), 6);
        due("only the last variable", graph(7, 0).degree(2 * G), 2);
        says(19, "BAD_ARGUMENT if m is not a valid code.", CODES);
        invalidCodes("degree", (x, m) -> x.degree(m));
    }

    private static void exponents() {
        says(20, "`m`: a monomial code", "`v`: the number of an existing vertex", "Returns the exponent, 0 to 3;",
                "the sum, over all vertices v, of the exponent of variable v times 4 to the power v.",
                "Returns the exponent of one variable in a monomial.");
        EdgeIdeals x = graph(7, 0);
        int[] exponents = {3, 0, 1, 2, 0, 1, 3};
        for (int v = 0; v < 7; v++) {
            due("variable " + v, x.exponent(3 * A + C + 2 * D + F + 3 * G, v), exponents[v]);
            due("the lowest code, variable " + v, x.exponent(0, v), 0);
            due("the greatest code, variable " + v, x.exponent(16383, v), 3);
        }
        due("the only vertex", graph(1, 0).exponent(2, 0), 2);
        says(20, "BAD_ARGUMENT if m is not a valid code or v is not an existing vertex.", CODES);
        invalidCodes("exponent(.., 0)", (y, m) -> y.exponent(m, 0));
        refusedEach("exponent(0, ..) of 5 vertices", (y, v) -> y.exponent(0, v), BAD_ARGUMENT, outside(0, 4));
        refusedEach("exponent(0, ..) of 1 vertex", y -> y.setVertexCount(1), (y, v) -> y.exponent(0, v), BAD_ARGUMENT,
                outside(0, 0));
        refusedEach("exponent(0, ..) of 7 vertices", y -> y.setVertexCount(7), (y, v) -> y.exponent(0, v),
                BAD_ARGUMENT, outside(0, 6));
        refused("both", y -> y.exponent(-1, -1), BAD_ARGUMENT);
    }

    private static void powerOrders() {
        says(21, "some product of the monomials of k edges divides it;", "an edge may be used more than once.",
                "The monomial of an edge is the product of the two variables of its ends.",
                "A monomial lies in the s-th power of the edge ideal if its power order is at least s.",
                "Returns the greatest s for which the monomial lies in the s-th power", "Returns the power order");
        EdgeIdeals x = graph(2, 3);
        due("no variable", x.powerOrder(0), 0);
        due("one end of the edge", x.powerOrder(3 * A), 0);
        due("the edge", x.powerOrder(A + B), 1);
        due("the edge twice", x.powerOrder(2 * A + 2 * B), 2);
        due("the edge, and more of one end", x.powerOrder(A + 3 * B), 1);
        due("the edge three times", x.powerOrder(3 * A + 3 * B), 3);
        due("two edges, not the one in the middle", withEdges(4, 1, 12, 23).powerOrder(A + B + C + D), 2);
        due("no edges", graph(7, 0).powerOrder(16383), 0);
        due("one vertex", graph(1, 0).powerOrder(3), 0);
        due("the edges were removed", withEdges(2, 1, 10).powerOrder(15), 0);
        says(21, "It may be greater than 3.");
        due("just 4", graph(3, 3).powerOrder(3 * A + 3 * B + 3 * C), 4);
        due("a star", graph(7, 4).powerOrder(16383), 3);
        due("two edges that share no vertex", withEdges(4, 1, 23).powerOrder(255), 6);
        due("the greatest", graph(7, 3).powerOrder(16383), 10);
        says(21, "`m`: a monomial code", "BAD_ARGUMENT if m is not a valid code.", CODES);
        for (int n = 1; n <= 7; n++) {
            due("the greatest code, " + n + " vertices", graph(n, 3).powerOrder(GREATEST[n]),
                    3 * n / 2 - (n == 1 ? 1 : 0));
        }
        invalidCodes("powerOrder", (y, m) -> y.powerOrder(m));
    }

    private static void symbolicOrders() {
        says(22,
                "the smallest value, over all minimal vertex covers, of the sum of its exponents of the variables in the",
                "Returns the symbolic order of a monomial", "Returns the symbolic order");
        EdgeIdeals x = graph(3, 3);
        due("no variable", x.symbolicOrder(0), 0);
        due("one variable", x.symbolicOrder(3 * A), 0);
        due("two variables", x.symbolicOrder(A + 3 * B), 1);
        due("all three: greater than the power order", x.symbolicOrder(A + B + C), 2);
        due("a star: the center alone is a cover", graph(7, 4).symbolicOrder(16383), 3);
        due("a star: the others are a cover", graph(7, 4).symbolicOrder(3 * A + 2 * G), 2);
        due("the greatest", graph(7, 3).symbolicOrder(16383), 18);
        says(22, "it is 0 if there are no edges.");
        due("no edges", graph(7, 0).symbolicOrder(16383), 0);
        due("one vertex", graph(1, 0).symbolicOrder(3), 0);
        due("the edges were removed", withEdges(2, 1, 10).symbolicOrder(15), 0);
        says(22, "`m`: a monomial code", "BAD_ARGUMENT if m is not a valid code.", CODES);
        for (int n = 1; n <= 7; n++) {
            due("the greatest code, " + n + " vertices", graph(n, 3).symbolicOrder(GREATEST[n]), 3 * (n - 1));
        }
        invalidCodes("symbolicOrder", (y, m) -> y.symbolicOrder(m));
    }

    private static void products() {
        says(23, "Multiplies two monomials: their exponents are added.", "Returns the code of the product;",
                "`a`: a monomial code", "`b`: a monomial code");
        EdgeIdeals x = graph(7, 0);
        due("1 times 1", x.multiply(0, 0), 0);
        due("the greatest code times 1", x.multiply(16383, 0), 16383);
        due("1 times the greatest code", x.multiply(0, 16383), 16383);
        due("every exponent becomes 3", x.multiply(A + 2 * B + 3 * G, 2 * A + B), 3 * A + 3 * B + 3 * G);
        due("the only variable", graph(1, 0).multiply(1, 2), 3);
        says(23, "FULL if some exponent would be greater than 3.");
        for (int v = 0; v < 7; v++) {
            int unit = 1 << 2 * v;
            refused("3 and 1 of variable " + v, y -> y.setVertexCount(7), y -> y.multiply(3 * unit, unit), FULL);
            refused("2 and 2 of variable " + v, y -> y.setVertexCount(7), y -> y.multiply(2 * unit, 2 * unit), FULL);
            refused("1 and 3 of variable " + v, y -> y.setVertexCount(7), y -> y.multiply(unit, 3 * unit), FULL);
            refused("3 and 3 of variable " + v, y -> y.setVertexCount(7), y -> y.multiply(3 * unit, 3 * unit), FULL);
        }
        refused("only one of several", y -> y.multiply(A + 2 * B + C, A + 2 * B + C), FULL);
        refused("the greatest codes", y -> y.multiply(1023, 1023), FULL);
        says(23, "BAD_ARGUMENT if a or b is not a valid code (checked first);", CODES);
        invalidPairs("multiply", (y, a, b) -> y.multiply(a, b));
        refused("too great an exponent besides", y -> y.multiply(1023, 1024 + 1023), BAD_ARGUMENT);
        refused("too great an exponent besides", y -> y.multiply(1024 + 1023, 1023), BAD_ARGUMENT);
    }

    private static void quotients() {
        says(24, "Divides a monomial by another one: their exponents are subtracted.",
                "Returns the code of the quotient;", "`a`: a monomial code, the dividend",
                "`b`: a monomial code, the divisor",
                "A monomial divides another one if none of its exponents is greater than the corresponding exponent");
        EdgeIdeals x = graph(7, 0);
        due("1 by 1", x.divide(0, 0), 0);
        due("by 1", x.divide(16383, 0), 16383);
        due("by itself", x.divide(16383, 16383), 0);
        due("equal exponents become 0", x.divide(3 * A + 2 * B + G, A + 2 * B + G), 2 * A);
        says(24, "NOT_POSSIBLE if b does not divide a.");
        refused("1 by a variable", y -> y.divide(0, A), NOT_POSSIBLE);
        for (int v = 0; v < 7; v++) {
            int unit = 1 << 2 * v;
            refused("by one more of variable " + v, y -> y.setVertexCount(7), y -> y.divide(16383 - unit, 16383),
                    NOT_POSSIBLE);
            refused("1 by 2 of variable " + v, y -> y.setVertexCount(7), y -> y.divide(unit, 2 * unit), NOT_POSSIBLE);
            refused("2 by 3 of variable " + v, y -> y.setVertexCount(7), y -> y.divide(2 * unit, 3 * unit),
                    NOT_POSSIBLE);
        }
        refused("the code is greater, but not the exponent", y -> y.divide(3 * C, C + A), NOT_POSSIBLE);
        says(24, "BAD_ARGUMENT if a or b is not a valid code (checked first);", CODES);
        invalidPairs("divide", (y, a, b) -> y.divide(a, b));
        refused("not divisible besides", y -> y.divide(1024, A), BAD_ARGUMENT);
        refused("not divisible besides", y -> y.divide(A, 1024), BAD_ARGUMENT);
    }

    private static void multiplesAndDivisors() {
        EdgeIdeals x = graph(7, 0);
        int mixed = 3 * A + 2 * B + C + 2 * E + 3 * G;
        int other = A + 3 * B + C + 3 * D + 2 * G;
        says(25, "Returns the least common multiple of two monomials: for each variable the greater of both exponents.",
                "Returns the code", "`a`: a monomial code", "`b`: a monomial code");
        due("1 and 1", x.lcm(0, 0), 0);
        due("1 and the greatest code", x.lcm(0, 16383), 16383);
        due("the greatest code and 1", x.lcm(16383, 0), 16383);
        due("equal ones", x.lcm(mixed, mixed), mixed);
        due("now the one, now the other", x.lcm(mixed, other), 3 * A + 3 * B + C + 3 * D + 2 * E + 3 * G);
        due("exponents 1 and 2: not 3", x.lcm(A, 2 * A), 2 * A);
        says(25, "BAD_ARGUMENT if a or b is not a valid code.", CODES);
        invalidPairs("lcm", (y, a, b) -> y.lcm(a, b));

        says(26,
                "Returns the greatest common divisor of two monomials: for each variable the smaller of both exponents.",
                "Returns the code", "`a`: a monomial code", "`b`: a monomial code");
        due("1 and 1", x.gcd(0, 0), 0);
        due("1 and the greatest code", x.gcd(0, 16383), 0);
        due("the greatest code and another", x.gcd(16383, other), other);
        due("equal ones", x.gcd(mixed, mixed), mixed);
        due("now the one, now the other", x.gcd(mixed, other), A + 2 * B + C + 2 * G);
        due("exponents 1 and 2: not 0", x.gcd(A, 2 * A), A);
        due("exponents 2 and 1: not 0", x.gcd(2 * G, G), G);
        says(26, "BAD_ARGUMENT if a or b is not a valid code.", CODES);
        invalidPairs("gcd", (y, a, b) -> y.gcd(a, b));
    }

    static void lookAt() {
        degrees();
        exponents();
        powerOrders();
        symbolicOrders();
        products();
        quotients();
        multiplesAndDivisors();
    }
}
