import java.util.ArrayList;
import java.util.Collections;
import java.util.LinkedHashMap;
import java.util.List;
import java.util.Map;
import java.util.Random;

/** Random runs of 512 calls, with fixed seeds: every answer is compared with the model's. */
public final class RandomRunsTest {
    // Each method with the kinds of its arguments; argument() says what a kind is.
    private static final String METHODS = "setVertexCount:n toggleEdge:vv build:k revertChange: vertexCount: edgeCount: "
            + "neighbors:v componentCount: hasOddCycle: matchingNumber: coverCount: cover:i height: bigHeight: "
            + "eliminationLength:c eliminated:cv isChordal:c degree:m exponent:mv powerOrder:m symbolicOrder:m "
            + "multiply:mm divide:mm lcm:mm gcd:mm generatorCount:s generator:si symbolicGeneratorCount:s "
            + "symbolicGenerator:si powersAgree:s firstDifference:s countInPower:sd countInSymbolicPower:sd "
            + "orderedGenerator:soi colonVariables:soi isLinearStep:soi firstNonLinearStep:so bettiNumber:soK "
            + "addDegreeTest:d addExponentTest:ve addSquareFreeTest: addPowerTest:s addSymbolicTest:s addAndTest:tt "
            + "addOrTest:tt addNotTest:t testCount: passes:tm passCount:t passing:ti append:m fillWithGenerators:s "
            + "fillWithSymbolicGenerators:s listSize: element:l clearList: minimizeList: divideListBy:v reverseList: "
            + "rotateList:r swapElements:ll indexOfDivisor:m polarizedVariableCount: polarized:l hittingNumber: feed:b "
            + "discardInput: parse: formattedLength: formattedByte:i saveList:w loadList:w clearSlot:w newArray:wa "
            + "setArrayElement:wax arrayElement:wa firstMismatch:ws usedSlotCount: changeCount: inputLength: "
            + "takeSnapshot: restoreSnapshot:";

    private final Random random;
    private final Pair pair = new Pair();
    private final List<String> names = new ArrayList<>();
    private final Map<String, String> kinds = new LinkedHashMap<>();
    private final int mostVertices;
    private int n = 4;

    private RandomRunsTest(long seed, int mostVertices) {
        random = new Random(seed);
        this.mostVertices = mostVertices;
        for (String method : METHODS.split(" ")) {
            String name = method.substring(0, method.indexOf(':'));
            names.add(name);
            kinds.put(name, method.substring(method.indexOf(':') + 1));
        }
    }

    private int between(int least, int greatest) {
        return least + random.nextInt(greatest - least + 1);
    }

    private int code() {
        int m = 0;
        for (int v = 0; v < n; v++) {
            m += (random.nextInt(3) == 0 ? between(0, 3) : between(0, 1)) << 2 * v;
        }
        return m;
    }

    private int order() {
        List<Integer> digits = new ArrayList<>();
        for (int v = 1; v <= n; v++) {
            digits.add(v);
        }
        Collections.shuffle(digits, random);
        int order = 0;
        for (int digit : digits) {
            order = 10 * order + digit;
        }
        int spoiled = random.nextInt(40);
        return spoiled == 0 ? order + 1 : spoiled == 1 ? order / 10 : spoiled == 2 ? 10 * order : spoiled == 3 ? -order
                : order;
    }

    private int argument(char kind) {
        if (random.nextInt(60) == 0) {
            int[] wild = {Integer.MIN_VALUE, Integer.MAX_VALUE, -1, -2, 0, 1, 8, 64, 128, 16384, 1 << 30};
            return wild[random.nextInt(wild.length)];
        }
        switch (kind) {
            case 'n': return random.nextInt(8) == 0 ? between(0, 8) : between(1, mostVertices);
            case 'v': return random.nextInt(12) == 0 ? between(-1, 7) : between(0, n - 1);
            case 'k': return between(random.nextInt(5) == 0 ? -1 : 0, random.nextInt(5) == 0 ? 6 : 5);
            case 'c': return random.nextInt(9) == 0 ? between(-1, 2) : between(0, 1);
            case 'm': return random.nextInt(15) == 0 ? between(-1, 1 << 2 * n) : code();
            case 's': return random.nextInt(9) == 0 ? between(0, 4) : between(1, 3);
            case 'd': return random.nextInt(9) == 0 ? between(-1, 22) : between(0, 2 * n);
            case 'e': return between(-1, 4);
            case 'o': return order();
            case 'i': return random.nextInt(9) == 0 ? between(-1, 900) : between(0, random.nextInt(4) == 0 ? 200 : 12);
            case 'l': return random.nextInt(3) == 0 ? between(-1, 24) : between(0, 5);
            case 'K': return between(-1, 8);
            case 't': return random.nextInt(6) == 0 ? between(-1, 8) : between(0, 5);
            case 'b': return random.nextInt(20) == 0 ? between(-1, 256) : "abcdefg123,,ab".charAt(random.nextInt(14));
            case 'w': return random.nextInt(9) == 0 ? between(-1, 4) : between(0, 3);
            case 'a': return random.nextInt(9) == 0 ? between(-2, 32) : between(0, 7);
            case 'r': return between(-1, 25);
            default: return random.nextInt(4) == 0 ? random.nextInt() : code();
        }
    }

    private void call(String name) {
        String kind = kinds.get(name);
        int[] arguments = new int[kind.length()];
        for (int i = 0; i < arguments.length; i++) {
            arguments[i] = argument(kind.charAt(i));
        }
        // The model is too slow to be asked about large graphs all the time.
        if (name.equals("setVertexCount") && arguments[0] > mostVertices && arguments[0] <= 7) {
            arguments[0] = mostVertices;
        }
        pair.ask(name, arguments);
        n = (int) pair.ask("vertexCount");
    }

    private void feedText() {
        StringBuilder text = new StringBuilder();
        int monomials = random.nextInt(6) == 0 ? between(20, 27) : between(1, 5);
        for (int k = 0; k < monomials; k++) {
            text.append(k > 0 ? "," : "");
            int start = text.length();
            for (int v = 0; v < 7; v++) {
                if (random.nextInt(monomials > 9 ? 7 : 3) == 0) {
                    text.append((char) ('a' + v)).append(new String[] {"", "", "2", "3"}[random.nextInt(4)]);
                }
            }
            text.append(text.length() == start ? "1" : "");
        }
        if (random.nextInt(2) == 0) {
            int where = random.nextInt(text.length() + 1);
            text.insert(where, (char) argument('b'));
        }
        for (int p = 0; p < text.length(); p++) {
            pair.ask("feed", text.charAt(p) & 255);
        }
        pair.ask("parse");
    }

    private void lookAtAll() {
        for (int v = 0; v < n; v++) {
            pair.ask("neighbors", v);
        }
        for (int i = 0; i <= 24; i++) {
            pair.ask("element", i);
            pair.ask("polarized", i);
        }
        for (int t = 0; t < pair.ask("testCount"); t++) {
            pair.ask("passCount", t);
        }
        for (int i = 0; i < pair.ask("formattedLength"); i++) {
            pair.ask("formattedByte", i);
        }
        for (int slot = 0; slot < 4; slot++) {
            for (int i = 0; i <= 30; i++) {
                pair.ask("arrayElement", slot, i);
            }
        }
        for (String name : new String[] {"changeCount", "inputLength", "usedSlotCount", "hittingNumber", "edgeCount"}) {
            pair.ask(name);
        }
    }

    private void takeApart() {
        while (pair.ask("revertChange") >= 0) {
            pair.ask("edgeCount");
        }
        for (int slot = 0; slot < 4; slot++) {
            pair.ask("loadList", slot);
            lookAtAll();
            pair.ask("clearSlot", slot);
        }
        pair.ask("restoreSnapshot");
        n = (int) pair.ask("vertexCount");
        lookAtAll();
    }

    private void run() {
        call("setVertexCount");
        for (int k = 0; k < 512; k++) {
            int chance = random.nextInt(40);
            if (chance == 0) {
                feedText();
            } else if (chance < 4) {
                call(random.nextBoolean() ? "toggleEdge" : "build");
            } else {
                String name = names.get(random.nextInt(names.size()));
                boolean rare = name.equals("setVertexCount") || name.equals("clearList") || name.equals("discardInput");
                call(rare && random.nextInt(3) > 0 ? "toggleEdge" : name);
            }
        }
        lookAtAll();
        takeApart();
    }

    public static void main(String[] args) {
        int[] runsByVertices = {0, 5, 20, 80, 300, 300, 100, 40};
        long seed = 1;
        for (int vertices = 1; vertices <= 7; vertices++) {
            for (int run = 0; run < runsByVertices[vertices]; run++) {
                new RandomRunsTest(seed++, vertices).run();
            }
        }
        Pair.finish();
    }
}
