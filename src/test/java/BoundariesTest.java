import java.io.IOException;
import java.nio.file.Files;
import java.nio.file.Path;
import java.util.regex.Matcher;
import java.util.regex.Pattern;

/**
 * A case for each sentence of the document, above all for its boundaries: too small, too large, empty, full, a
 * wrap-around, a refused call. At the end every sentence must have been quoted by a case.
 */
public final class BoundariesTest {
    private static final Path DOCUMENT = Path.of("../shared/DOC.md");

    /** The examples of the document, as they stand there. */
    private static void examples() throws IOException, ReflectiveOperationException {
        String text = Files.readString(DOCUMENT);
        String part = text.substring(text.indexOf("Examples."), text.indexOf("The constants:"));
        int found = 0;
        for (String example : part.split("\\.\\s*\n")) {
            EdgeIdeals x = new EdgeIdeals();
            Matcher call = Pattern.compile("(\\w+)\\(([-\\d, ]*)\\)\\s+=\\s+(-?\\d+)").matcher(example);
            while (call.find()) {
                found++;
                Check.dueTrue("the example " + call.group(), Calls.answerOf(x, call.group(1), call.group(2))
                        == Long.parseLong(call.group(3)));
            }
        }
        Check.dueTrue("40 calls are in the examples, found " + found, found == 40);
    }

    public static void main(String[] args) throws IOException, ReflectiveOperationException {
        GraphBoundaries.lookAt();
        MonomialBoundaries.lookAt();
        PowerBoundaries.lookAt();
        TestBoundaries.lookAt();
        ListBoundaries.lookAt();
        InputBoundaries.lookAt();
        SlotBoundaries.lookAt();
        examples();
        Sentences.everySentenceLookedAt();
        Sentences.everyErrorSeen();
        Check.everyPromiseLookedAt();
        Check.finish();
    }
}
