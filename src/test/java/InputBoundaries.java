/** Promises 67 to 71 and 81: the input, its syntax, and the formatted list. */
final class InputBoundaries extends Boundaries {
    private static final String LIMIT = "The input is a buffer of at most 60 bytes, initially empty.";
    private static final String POSITION =
            "The error position is the position, from 0, of the first byte that cannot continue any valid input;";
    private static final String[] LETTERS = {"a", "b", "c", "d", "e", "f", "g"};

    private static String ones(int count) {
        return "1" + ",1".repeat(count - 1);
    }

    private static void feeding() {
        says(67, "Appends a byte to the input.", "`b`: the byte, 0 to 255", "Returns the new length of the input;");
        EdgeIdeals x = new EdgeIdeals();
        due("the lowest byte", x.feed(0), 1);
        due("the greatest byte", x.feed(255), 2);
        due("another", x.feed(97), 3);
        x.discardInput();
        due("after discardInput", x.feed(97), 1);
        due("at the end", x.feed(50), 2);
        due("both are read", x.parse(), 1);
        dueList("in their order", x, "a2");
        due("after parse", x.feed(97), 1);
        says(67, "FULL if the input has 60 bytes.", LIMIT);
        for (int length = 2; length <= 60; length++) {
            due("byte " + length, x.feed(length == 2 ? '2' : ','), length);
        }
        due("byte 61", x.feed('b'), FULL);
        due("the length stays", x.inputLength(), 60);
        refused("60 bytes", Boundaries::fillInput, y -> y.feed('b'), FULL);
        refused("60 bytes", Boundaries::fillInput, y -> y.feed(0), FULL);
        says(67, "BAD_ARGUMENT if b is out of range (checked first);");
        refusedEach("4 bytes", (y, b) -> y.feed(b), BAD_ARGUMENT, outside(0, 255));
        refusedEach("60 bytes", Boundaries::fillInput, (y, b) -> y.feed(b), BAD_ARGUMENT, outside(0, 255));
        refusedEach("a letter in the lowest 8 bits", (y, b) -> y.feed(b), BAD_ARGUMENT, 256 + 97, 97 - 256);

        says(68, "Removes all bytes of the input.", "Returns the number of removed bytes.");
        due("60 bytes", x.discardInput(), 60);
        due("none is left", x.inputLength(), 0);
        due("an empty input", x.discardInput(), 0);
        feedAll(x, "ab");
        x.discardInput();
        feedAll(x, "c");
        due("the removed bytes are not read", x.parse(), 1);
        dueList("the removed bytes are not read", x, "c");

        says(81, "Returns the number of bytes, 0 to 60.", "Returns the length of the input.", LIMIT);
        x = new EdgeIdeals();
        due("empty", x.inputLength(), 0);
        x.feed(0);
        due("the byte 0 counts", x.inputLength(), 1);
        fillInput(x);
        due("full", x.inputLength(), 60);
        x.feed('a');
        due("full after a refused byte", x.inputLength(), 60);
        x.parse();
        due("after parse", x.inputLength(), 0);
        x.feed('a');
        x.discardInput();
        due("after discardInput", x.inputLength(), 0);
    }

    private static void reading() {
        says(69, "Parses the input as a list of monomials, which replaces the list.",
                "Returns the new size of the list;",
                "It is parsed as one or more monomials separated by single commas, at most 24.");
        EdgeIdeals x = withList("a,b,c");
        due("one monomial", parsed(x, "d"), 1);
        dueList("one monomial", x, "d");
        due("two monomials, equal ones", parsed(x, "ab,ab"), 2);
        due("24 monomials", parsed(x, ones(24)), 24);
        dueList("24 monomials", x, ones(24));
        fillList(x);
        due("the old list was full", parsed(x, "a,b"), 2);
        says(69,
                "A monomial is either the digit 1 alone, which is the monomial 1, or one or more letters from a to g in",
                "The letter a stands for variable 0, b for variable 1, and so on;",
                "without a digit the exponent is 1.");
        for (int v = 0; v < 7; v++) {
            due(LETTERS[v], parsed(x, LETTERS[v]), 1);
            due(LETTERS[v], x.element(0), 1 << 2 * v);
            due(LETTERS[v] + "2", parsed(x, LETTERS[v] + "2"), 1);
            due(LETTERS[v] + "2", x.element(0), 2 << 2 * v);
            due(LETTERS[v] + "3", parsed(x, LETTERS[v] + "3"), 1);
            due(LETTERS[v] + "3", x.element(0), 3 << 2 * v);
        }
        due("1", parsed(x, "1"), 1);
        due("1", x.element(0), 0);
        due("all letters", parsed(x, "abcdefg"), 1);
        due("all letters", x.element(0), A + B + C + D + E + F + G);
        due("all letters with the greatest digit", parsed(x, "a3b3c3d3e3f3g3"), 1);
        due("all letters with the greatest digit", x.element(0), 16383);
        due("digits after some letters", parsed(x, "a2bd3g"), 1);
        due("digits after some letters", x.element(0), 2 * A + B + 3 * D + G);
        says(69, "letters of vertices that do not exist are allowed.");
        x.setVertexCount(1);
        due("one vertex", parsed(x, "bg3"), 1);
        due("one vertex", x.element(0), B + 3 * G);
        says(69, LIMIT);
        String sixty = "a3b3c3d3e3f3g3," + "a3b3c3d3e3f3g3," + "a3b3c3d3e3f3g3," + "a3b3c3d3e3f3g,g";
        due("60 bytes", sixty.length(), 60);
        due("60 bytes", parsed(x, sixty), 5);
        dueList("60 bytes", x, sixty);
    }

    private static void wrong(String text, int position) {
        EdgeIdeals x = withList("b3,c");
        due("'" + text + "'", parsed(x, text), -1000 - position);
        dueSame("the list after '" + text + "'", codesOf(x), "12,16");
        due("the input after '" + text + "'", x.inputLength(), 0);
    }

    private static void readingWrong() {
        says(69, "after a syntax error, -1000 minus the error position.", POSITION, "There are no spaces.",
                "The input becomes empty, even after a syntax error.",
                "After a syntax error the list does not change.");
        String[] beginnings = {"0", "2", "3", "4", "9", "h", "z", "`", "A", "G", ",", " ", "-", "\0", "\u00ff",
                "\u00e1"};
        for (String wrongByte : beginnings) {
            wrong(wrongByte, 0);
            wrong("ab," + wrongByte, 3);
            wrong("1," + wrongByte + "a", 2);
        }
        for (String wrongByte : new String[] {"0", "1", "4", "9", "h", "`", "A", " ", ".", ";", "\0", "\u00ff",
                "\u00e2"}) {
            wrong("a" + wrongByte, 1);
            wrong("a2" + wrongByte, 2);
            wrong("1" + wrongByte, 1);
            wrong("c,ab3" + wrongByte + "c", 5);
        }
        for (int v = 0; v < 7; v++) {
            wrong("1" + LETTERS[v], 1);
            wrong("g" + LETTERS[v], 1);
            wrong("g2" + LETTERS[v], 2);
            wrong(LETTERS[v] + LETTERS[v], 1);
            wrong(LETTERS[v] + "3" + LETTERS[v], 2);
            wrong(LETTERS[v] + "22", 2);
            wrong(LETTERS[v] + "33", 2);
            wrong(LETTERS[v] + "1", 1);
        }
        wrong("ba", 1);
        wrong("aceb", 3);
        wrong("11", 1);
        wrong("12", 1);
        wrong("13", 1);
        wrong("a,,b", 2);
        wrong("1,,1", 2);
        wrong("a, b", 2);
        wrong("a ,b", 1);
        wrong("a b", 1);
        wrong("ab2,ba", 5);
        wrong("a\n", 1);
        says(69, "if the input ends too early, it is the length of the input.", "after a syntax error, -1000 minus");
        wrong("", 0);
        wrong("a,", 2);
        wrong("1,", 2);
        wrong("a3b3c3d3e3f3g3,a2,", 18);
        // The 60 bytes limit the input, not the syntax: this one could go on, had it room.
        wrong("a3b3c3d3e3f3g3," + "a3b3c3d3e3f3g3," + "a3b3c3d3e3f3g3," + "a3b3c3d3e3f3g3,", 60);
        wrong("a3b3c3d3e3f3g3," + "a3b3c3d3e3f3g3," + "a3b3c3d3e3f3g3," + "a3b3c3d3e3f3gg,", 58);
        says(69, "The comma before a 25th monomial is such a byte.", POSITION,
                "It is parsed as one or more monomials separated by single commas, at most 24.");
        wrong(ones(25), 47);
        wrong(ones(24) + ",", 47);
        wrong(ones(24) + ",,", 47);
        wrong(ones(24) + ",h", 47);
        wrong(ones(23) + ",", 46);
        wrong(ones(23) + ",a2,b", 48);
        wrong(ones(24) + "a", 47);
        wrong("h" + ones(25), 0);
        says(69, "The input becomes empty, even after a syntax error.");
        EdgeIdeals x = withList("a");
        due("after a list", x.inputLength(), 0);
        due("nothing is left to be read", x.parse(), -1000);
        parsed(x, "ab,h");
        feedAll(x, "c");
        due("nothing is left of the wrong input", x.parse(), 1);
        dueList("nothing is left of the wrong input", x, "c");
        says(69, "After a syntax error the list does not change.",
                "A call that returns an error code leaves the state");
        refused("the rest of the object", y -> y.discardInput(), y -> parsed(y, "c,a3ba"), -1005);
        refused("an empty input", y -> y.discardInput(), y -> y.parse(), -1000);
    }

    private static void formatting() {
        says(70, "Returns the length of the list when it is formatted in the input syntax",
                "Returns the number of bytes;",
                "The list is formatted in the same syntax, with the letters in ascending order and without a digit for");
        String[] texts = {"1", "a", "a2", "g3", "1,1", "a,1,b", "abcdefg", "a2bc3,ab", "b,a"};
        for (String text : texts) {
            due(text, withList(text).formattedLength(), text.length());
        }
        EdgeIdeals x = graph(7, 0);
        while (x.append(16383) >= 0) {
            due("all exponents are 3", x.formattedLength(), 15L * x.listSize() - 1);
        }
        x.setVertexCount(1);
        due("vertices that do not exist", x.formattedLength(), 359);
        says(70, "0 if the list is empty.", "An empty list is formatted as no bytes.");
        due("a new list", new EdgeIdeals().formattedLength(), 0);
        x.clearList();
        due("a cleared list", x.formattedLength(), 0);

        says(71, "Returns one byte of the list when it is formatted in the input syntax.", "Returns the byte;",
                "The list is formatted in the same syntax, with the letters in ascending order and without a digit for",
                "`i`: the position, 0 for the first byte");
        for (String text : texts) {
            x = withList(text);
            for (int i = 0; i < text.length(); i++) {
                due("byte " + i + " of " + text, x.formattedByte(i), text.charAt(i));
            }
        }
        x = graph(7, 0);
        while (x.append(16383) >= 0) {
            due("the last byte", x.formattedByte(15 * x.listSize() - 2), '3');
        }
        due("the last comma", x.formattedByte(344), ',');
        due("the last letter", x.formattedByte(357), 'g');
        says(71, "BAD_ARGUMENT if i is negative;");
        refusedEach("3 elements", (y, i) -> y.formattedByte(i), BAD_ARGUMENT, negative());
        refusedEach("an empty list", y -> y.clearList(), (y, i) -> y.formattedByte(i), BAD_ARGUMENT, negative());
        says(71, "NONE if i is not less than the length.", "An empty list is formatted as no bytes.");
        refusedEach("an empty list", y -> y.clearList(), (y, i) -> y.formattedByte(i), NONE, tooGreat(0));
        refusedEach("1,a2b,cg3", (y, i) -> y.formattedByte(i), NONE, tooGreat(9));
        refusedEach("the longest", y -> {
            y.setVertexCount(7);
            y.clearList();
            while (y.listSize() < 24) {
                y.append(16383);
            }
        }, (y, i) -> y.formattedByte(i), NONE, tooGreat(359));
    }

    static void lookAt() {
        feeding();
        reading();
        readingWrong();
        formatting();
    }
}
