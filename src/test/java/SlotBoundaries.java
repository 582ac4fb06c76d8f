/** Promises 72 to 80, 82 and 83: slots, the number of changes, and the snapshot. */
final class SlotBoundaries extends Boundaries {
    private static final String SLOT = "`slot`: the number of the slot, 0 to 3";
    private static final String FOUR = "There are 4 slots.";
    private static final int[] NO_SLOTS = outside(0, 3);

    private static void lists() {
        says(72, "Stores a copy of the list in a slot.", SLOT, FOUR, "Returns the size of the list");
        for (int slot = 0; slot <= 3; slot++) {
            EdgeIdeals x = withList("a,b,c");
            due("slot " + slot, x.saveList(slot), 3);
            due("one slot is used", x.usedSlotCount(), 1);
            dueList("the list stays", x, "a,b,c");
            x.divideListBy(0);
            x.clearList();
            due("slot " + slot, x.loadList(slot), 3);
            dueList("a copy", x, "a,b,c");
        }
        EdgeIdeals x = new EdgeIdeals();
        due("an empty list", x.saveList(0), 0);
        due("the slot is not empty", x.usedSlotCount(), 1);
        due("an empty list", x.loadList(0), 0);
        fillList(x);
        due("24 elements, in place of another list", x.saveList(0), 24);
        x.clearList();
        due("24 elements", x.loadList(0), 24);
        due("the last of 24", x.element(23), 23);
        x.newArray(1, 30);
        due("in place of an array", x.saveList(1), 24);
        due("the array is gone", x.clearSlot(1), 1);
        says(72, "BAD_ARGUMENT if slot is out of range.");
        refusedEach("saveList", (y, slot) -> y.saveList(slot), BAD_ARGUMENT, NO_SLOTS);
        refusedEach("an empty list", y -> y.clearList(), (y, slot) -> y.saveList(slot), BAD_ARGUMENT, NO_SLOTS);

        says(73, "Replaces the list by a copy of the list that a slot contains.", SLOT, FOUR,
                "Returns the new size of the list;");
        x = withList("a,b,c");
        x.saveList(3);
        fillList(x);
        due("in place of a full list", x.loadList(3), 3);
        x.divideListBy(1);
        due("the slot was not changed", x.loadList(3), 3);
        dueList("the slot was not changed", x, "a,b,c");
        x.setVertexCount(1);
        due("the number of vertices does not matter", x.loadList(3), 3);
        due("the other slots are empty", x.loadList(2), EMPTY_SLOT);
        says(73, "EMPTY_SLOT if the slot is empty;",
                "Each is empty or contains a list of monomials or an array of ints.");
        due("a new object", new EdgeIdeals().loadList(0), EMPTY_SLOT);
        refusedEach("never used", (y, slot) -> y.loadList(slot), EMPTY_SLOT, 2, 3);
        refused("made empty again", y -> y.clearSlot(0), y -> y.loadList(0), EMPTY_SLOT);
        says(73, "WRONG_KIND if it contains an array.");
        refused("an array", y -> y.loadList(1), WRONG_KIND);
        refused("an array of length 0", y -> y.newArray(2, 0), y -> y.loadList(2), WRONG_KIND);
        refused("an array in place of a list", y -> y.newArray(0, 3), y -> y.loadList(0), WRONG_KIND);
        says(73, "BAD_ARGUMENT if slot is out of range (checked first);");
        refusedEach("loadList", (y, slot) -> y.loadList(slot), BAD_ARGUMENT, NO_SLOTS);

        says(74, "Makes a slot empty.", "Returns what it contained: 0 nothing, 1 a list, 2 an array;", SLOT, FOUR);
        for (int slot = 0; slot <= 3; slot++) {
            x = withList("a");
            due("nothing", x.clearSlot(slot), 0);
            x.saveList(slot);
            due("a list", x.clearSlot(slot), 1);
            due("nothing any more", x.clearSlot(slot), 0);
            x.newArray(slot, 2);
            due("an array", x.clearSlot(slot), 2);
            due("nothing any more", x.usedSlotCount(), 0);
            x.clearList();
            x.saveList(slot);
            due("an empty list", x.clearSlot(slot), 1);
            x.newArray(slot, 0);
            due("an array of length 0", x.clearSlot(slot), 2);
        }
        x = furnished();
        x.clearSlot(0);
        due("the other slots stay", x.clearSlot(1), 2);
        says(74, "BAD_ARGUMENT if slot is out of range.");
        refusedEach("clearSlot", (y, slot) -> y.clearSlot(slot), BAD_ARGUMENT, NO_SLOTS);
    }

    private static void arrays() {
        says(75, "Stores a new array of ints, all 0, in a slot.", SLOT, FOUR, "`length`: the length, 0 to 30",
                "Returns the length;");
        for (int slot = 0; slot <= 3; slot++) {
            EdgeIdeals x = furnished();
            due("the least length, slot " + slot, x.newArray(slot, 0), 0);
            dueSame("no element", arrayOf(x, slot), "");
            due("length 1", x.newArray(slot, 1), 1);
            dueSame("one element", arrayOf(x, slot), "0 ");
            due("the greatest length", x.newArray(slot, 30), 30);
            dueSame("30 elements", arrayOf(x, slot), "0 ".repeat(30));
            for (int i = 0; i < 30; i++) {
                x.setArrayElement(slot, i, i + 1);
            }
            due("a new one in its place", x.newArray(slot, 29), 29);
            dueSame("all 0 again", arrayOf(x, slot), "0 ".repeat(29));
        }
        EdgeIdeals x = withList("a,b");
        x.saveList(2);
        due("in place of a list", x.newArray(2, 2), 2);
        dueSame("all 0", arrayOf(x, 2), "0 0 ");
        due("the list is gone", x.clearSlot(2), 2);
        says(75, "NEGATIVE_SIZE if length is negative.");
        for (int slot = 0; slot <= 3; slot++) {
            int number = slot;
            refusedEach("slot " + slot, (y, length) -> y.newArray(number, length), NEGATIVE_SIZE, negative());
        }
        says(75, "BAD_ARGUMENT if slot is out of range or length is greater than 30 (checked first);");
        refusedEach("length", (y, length) -> y.newArray(1, length), BAD_ARGUMENT, tooGreat(31));
        refusedEach("slot", (y, slot) -> y.newArray(slot, 3), BAD_ARGUMENT, NO_SLOTS);
        refusedEach("slot, and a length of 31", (y, slot) -> y.newArray(slot, 31), BAD_ARGUMENT, NO_SLOTS);
        refusedEach("slot, and a negative length", (y, slot) -> y.newArray(slot, -1), BAD_ARGUMENT, NO_SLOTS);

        says(76, "Sets an element of the array that a slot contains.", SLOT, FOUR, "`i`: the index", "`value`: any int",
                "Returns 1;");
        for (int slot = 0; slot <= 3; slot++) {
            x = furnished();
            x.newArray(slot, 30);
            due("the first index, the lowest value", x.setArrayElement(slot, 0, LOW), 1);
            due("the last index, the greatest value", x.setArrayElement(slot, 29, HIGH), 1);
            dueSame("the others stay", arrayOf(x, slot), LOW + " " + "0 ".repeat(28) + HIGH + " ");
            due("once more", x.setArrayElement(slot, 0, 0), 1);
            due("once more", x.arrayElement(slot, 0), 0);
        }
        says(76, "BAD_ARGUMENT if slot is out of range (checked first);");
        refusedEach("slot", (y, slot) -> y.setArrayElement(slot, 0, 7), BAD_ARGUMENT, NO_SLOTS);
        refusedEach("slot and index", (y, slot) -> y.setArrayElement(slot, -1, 7), BAD_ARGUMENT, NO_SLOTS);
        says(76, "EMPTY_SLOT if the slot is empty;");
        refusedEach("slot", (y, slot) -> y.setArrayElement(slot, 0, 7), EMPTY_SLOT, 2, 3);
        refusedEach("slot and index", (y, slot) -> y.setArrayElement(slot, -1, 7), EMPTY_SLOT, 2, 3);
        refused("made empty again", y -> y.clearSlot(1), y -> y.setArrayElement(1, 2, 7), EMPTY_SLOT);
        says(76, "WRONG_KIND if it contains a list;");
        refused("a list", y -> y.setArrayElement(0, 0, 7), WRONG_KIND);
        refused("a list, and the index", y -> y.setArrayElement(0, -1, 7), WRONG_KIND);
        refused("a list in place of an array", y -> y.saveList(1), y -> y.setArrayElement(1, 0, 7), WRONG_KIND);
        says(76, "INDEX_OUT_OF_RANGE if i is not a valid index.");
        refusedEach("5 elements", (y, i) -> y.setArrayElement(1, i, 7), INDEX_OUT_OF_RANGE, outside(0, 4));
        refusedEach("no elements", y -> y.newArray(1, 0), (y, i) -> y.setArrayElement(1, i, 7), INDEX_OUT_OF_RANGE,
                0, 1, -1, LOW, HIGH);
        refusedEach("30 elements", y -> y.newArray(1, 30), (y, i) -> y.setArrayElement(1, i, 7), INDEX_OUT_OF_RANGE,
                outside(0, 29));
        refusedEach("a longer array before", y -> {
            y.newArray(1, 30);
            y.newArray(1, 2);
        }, (y, i) -> y.setArrayElement(1, i, 7), INDEX_OUT_OF_RANGE, outside(0, 1));

        readingArrays();
    }

    private static void readingArrays() {
        says(77, "Returns an element of the array that a slot contains.", SLOT, "`i`: the index",
                "Returns the element;");
        EdgeIdeals x = furnished();
        due("an element", x.arrayElement(1, 2), -77);
        due("the first", x.arrayElement(1, 0), 0);
        due("the last", x.arrayElement(1, 4), 0);
        for (int slot = 0; slot <= 3; slot++) {
            x.newArray(slot, 30);
            x.setArrayElement(slot, 29, LOW);
            x.setArrayElement(slot, 28, HIGH);
            due("the lowest value, slot " + slot, x.arrayElement(slot, 29), LOW);
            due("the greatest value, slot " + slot, x.arrayElement(slot, 28), HIGH);
        }
        says(77, "NO_VALUE if slot is out of range, the slot does not contain an array, or i is not a valid index.");
        refusedEach("slot", (y, slot) -> y.arrayElement(slot, 0), NO_VALUE, NO_SLOTS);
        refusedEach("empty slots", (y, slot) -> y.arrayElement(slot, 0), NO_VALUE, 2, 3);
        refused("a list", y -> y.arrayElement(0, 0), NO_VALUE);
        refused("a list in place of an array", y -> y.saveList(1), y -> y.arrayElement(1, 0), NO_VALUE);
        refused("made empty again", y -> y.clearSlot(1), y -> y.arrayElement(1, 2), NO_VALUE);
        refusedEach("5 elements", (y, i) -> y.arrayElement(1, i), NO_VALUE, outside(0, 4));
        refusedEach("30 elements", y -> y.newArray(1, 30), (y, i) -> y.arrayElement(1, i), NO_VALUE, outside(0, 29));
        refusedEach("no elements", y -> y.newArray(1, 0), (y, i) -> y.arrayElement(1, i), NO_VALUE, 0, 1, -1);
    }

    /** Puts the first generators into an array of the given length. */
    private static void arrayOfGenerators(EdgeIdeals x, int slot, int length, int s) {
        x.newArray(slot, length);
        for (int i = 0; i < length; i++) {
            x.setArrayElement(slot, i, Math.max(x.generator(s, i), 0));
        }
    }

    private static void mismatches() {
        says(78, "Compares the array that a slot contains with the minimal generators of the s-th power, in descending",
                "Returns the first index at which they differ;", SLOT, "`s`: the power, 1 to 3");
        EdgeIdeals x = graph(4, 2);
        for (int slot = 0; slot <= 3; slot++) {
            arrayOfGenerators(x, slot, 3, 1);
            due("equal, slot " + slot, x.firstMismatch(slot, 1), NONE);
            x.setArrayElement(slot, 2, 6);
            due("the last differs", x.firstMismatch(slot, 1), 2);
            x.setArrayElement(slot, 0, 81);
            due("the first differs, too", x.firstMismatch(slot, 1), 0);
        }
        for (int s = 1; s <= 3; s++) {
            arrayOfGenerators(x, 0, x.generatorCount(s), s);
            due("equal, power " + s, x.firstMismatch(0, s), NONE);
        }
        says(78,
                "If both are equal in all elements of the shorter one but have different lengths, the result is the smaller");
        arrayOfGenerators(x, 0, 2, 1);
        due("an array of 2, 3 generators", x.firstMismatch(0, 1), 2);
        arrayOfGenerators(x, 0, 4, 1);
        due("an array of 4, 3 generators", x.firstMismatch(0, 1), 3);
        x.newArray(0, 0);
        due("an array of 0, 3 generators", x.firstMismatch(0, 1), 0);
        x.build(0);
        x.newArray(0, 1);
        due("an array of 1, no generators", x.firstMismatch(0, 1), 0);
        EdgeIdeals large = withEdges(5, 1, 2, 3, 13, 23, 4, 14, 24);
        arrayOfGenerators(large, 0, 30, 2);
        due("an array of 30, 31 generators", large.firstMismatch(0, 2), 30);
        large.setArrayElement(0, 29, 0);
        due("but the last differs", large.firstMismatch(0, 2), 29);
        says(78, "NONE if they are equal.");
        x.newArray(0, 0);
        due("both are empty", x.firstMismatch(0, 3), NONE);
        large = withEdges(4, 1, 2, 12, 3, 13);
        arrayOfGenerators(large, 3, 30, 3);
        due("30 and 30", large.firstMismatch(3, 3), NONE);
        says(78, "BAD_ARGUMENT if slot or s is out of range (checked first);");
        refusedEach("slot", (y, slot) -> y.firstMismatch(slot, 1), BAD_ARGUMENT, NO_SLOTS);
        for (int slot = 0; slot <= 3; slot++) {
            int number = slot;
            refusedEach("power, slot " + slot, (y, s) -> y.firstMismatch(number, s), BAD_ARGUMENT, outside(1, 3));
        }
        refused("both", y -> y.firstMismatch(4, 0), BAD_ARGUMENT);
        says(78, "EMPTY_SLOT if the slot is empty;");
        refusedEach("slot", (y, slot) -> y.firstMismatch(slot, 1), EMPTY_SLOT, 2, 3);
        refused("no edges", y -> y.build(0), y -> y.firstMismatch(2, 1), EMPTY_SLOT);
        says(78, "WRONG_KIND if it contains a list;");
        refused("a list", y -> y.firstMismatch(0, 1), WRONG_KIND);
        refused("a list of the generators", y -> {
            y.fillWithGenerators(1);
            y.saveList(0);
        }, y -> y.firstMismatch(0, 1), WRONG_KIND);
    }

    private static void counts() {
        says(79, "Returns the number of slots, 0 to 4.", "Returns the number of slots that are not empty.", FOUR,
                "Each is empty or contains a list of monomials or an array of ints.");
        EdgeIdeals x = new EdgeIdeals();
        due("none", x.usedSlotCount(), 0);
        x.saveList(3);
        due("an empty list", x.usedSlotCount(), 1);
        x.newArray(0, 0);
        due("an array of length 0", x.usedSlotCount(), 2);
        x.saveList(0);
        due("a list in place of an array", x.usedSlotCount(), 2);
        x.newArray(1, 30);
        x.newArray(2, 1);
        due("all", x.usedSlotCount(), 4);
        x.clearSlot(0);
        due("one made empty", x.usedSlotCount(), 3);
        x.newArray(0, -1);
        due("a refused array", x.usedSlotCount(), 3);

        says(80, "Returns the number of changes, 0 to 12.",
                "Returns the number of recorded changes that can be reverted.",
                "Only the latest 12 that were not reverted can be reverted.");
        x = new EdgeIdeals();
        due("none", x.changeCount(), 0);
        for (int k = 1; k <= 15; k++) {
            if (k % 2 == 0) {
                x.build(k % 6);
            } else {
                x.toggleEdge(0, 1);
            }
            due(k + " changes", x.changeCount(), Math.min(k, 12));
        }
        x.toggleEdge(1, 1);
        x.build(-1);
        due("refused changes", x.changeCount(), 12);
        for (int left = 11; left >= 0; left--) {
            x.revertChange();
            due("after a revert", x.changeCount(), left);
        }
        x.revertChange();
        due("after a refused revert", x.changeCount(), 0);
        x.build(3);
        x.setVertexCount(4);
        due("after setVertexCount", x.changeCount(), 0);
    }

    private static void snapshots() {
        says(82, "Takes a snapshot of the number of vertices, the edges, the tests and the list.",
                "Returns the number of vertices.");
        due("a new object", new EdgeIdeals().takeSnapshot(), 4);
        due("one vertex", graph(1, 0).takeSnapshot(), 1);
        due("7 vertices", graph(7, 3).takeSnapshot(), 7);
        EdgeIdeals taken = furnished();
        EdgeIdeals other = furnished();
        taken.takeSnapshot();
        due("the history stays", taken.changeCount(), 2);
        taken.restoreSnapshot();
        dueSame("the edges", edgesOf(taken), edgesOf(other));
        dueSame("the tests", testsOf(taken), testsOf(other));
        dueSame("the list", codesOf(taken), codesOf(other));
        EdgeIdeals x = new EdgeIdeals();
        x.takeSnapshot();
        furnishAll(x);
        due("a new object comes back", x.restoreSnapshot(), 4);
        due("no tests", x.testCount(), 0);
        due("no elements", x.listSize(), 0);
        due("no edges", x.edgeCount(), 0);
        x = graph(7, 3);
        fillTests(x);
        fillList(x);
        x.takeSnapshot();
        x.setVertexCount(1);
        x.clearList();
        x.restoreSnapshot();
        due("all edges", x.edgeCount(), 21);
        due("8 tests", x.testCount(), 8);
        due("24 elements", x.listSize(), 24);
        due("the last of them", x.element(23), 23);
        says(82, "It replaces an earlier snapshot.");
        x = furnished();
        x.setVertexCount(6);
        x.clearList();
        x.takeSnapshot();
        x.setVertexCount(2);
        x.append(1);
        due("the later one", x.restoreSnapshot(), 6);
        due("the later list", x.listSize(), 0);
        due("the later tests", x.testCount(), 3);

        restoring();
    }

    private static void furnishAll(EdgeIdeals x) {
        x.setVertexCount(7);
        x.build(3);
        fillTests(x);
        fillList(x);
        x.saveList(2);
        x.newArray(0, 3);
        x.setArrayElement(0, 1, 9);
        x.discardInput();
        feedAll(x, "a,b2");
    }

    private static void restoring() {
        says(83, "NOT_POSSIBLE if no snapshot was taken.",
                "A call that returns an error code leaves the state unchanged");
        due("a new object", new EdgeIdeals().restoreSnapshot(), NOT_POSSIBLE);
        EdgeIdeals x = new EdgeIdeals();
        EdgeIdeals same = new EdgeIdeals();
        furnishAll(x);
        furnishAll(same);
        due("an object in use", x.restoreSnapshot(), NOT_POSSIBLE);
        dueSame("nothing changes", stateOf(x), stateOf(same));

        says(83, "Restores the number of vertices, the edges, the tests and the list of the latest snapshot",
                "Returns the number of vertices");
        x = furnished();
        furnishAll(x);
        due("restoreSnapshot()", x.restoreSnapshot(), 3);
        due("vertexCount()", x.vertexCount(), 3);
        dueSame("the edges", edgesOf(x), "[2, 5, 2]");
        dueSame("the tests", testsOf(x), "[32]");
        dueList("the list", x, "abc,a2");
        due("the powers are those of the restored graph", x.generatorCount(1), 2);
        due("the covers are those of the restored graph", x.coverCount(), 2);
        due("a test can be added", x.addSquareFreeTest(), 1);
        says(83, "which stays available.");
        x.build(3);
        x.divideListBy(0);
        due("once more", x.restoreSnapshot(), 3);
        dueSame("the edges", edgesOf(x), "[2, 5, 2]");
        dueSame("the tests", testsOf(x), "[32]");
        dueList("the list", x, "abc,a2");
        x.setVertexCount(7);
        due("after setVertexCount", x.restoreSnapshot(), 3);
        due("twice in a row", x.restoreSnapshot(), 3);
        says(83, "The change history becomes empty.");
        x.build(3);
        due("a change", x.changeCount(), 1);
        x.restoreSnapshot();
        due("changeCount()", x.changeCount(), 0);
        due("revertChange()", x.revertChange(), NOT_POSSIBLE);
        x = graph(4, 3);
        x.takeSnapshot();
        x.restoreSnapshot();
        due("even if nothing was changed since", x.changeCount(), 0);
        says(83, "The slots and the input stay.");
        x = furnished();
        furnishAll(x);
        x.restoreSnapshot();
        due("the slots", x.usedSlotCount(), 3);
        dueSame("the array", arrayOf(x, 0), "0 9 0 ");
        due("the list in a slot", x.loadList(2), 24);
        due("the input", x.inputLength(), 4);
        due("the input", x.parse(), 2);
        dueList("the input", x, "a,b2");
    }

    static void lookAt() {
        lists();
        arrays();
        mismatches();
        counts();
        snapshots();
    }
}
