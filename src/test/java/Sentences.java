import java.io.IOException;
import java.io.UncheckedIOException;
import java.nio.file.Files;
import java.nio.file.Path;
import java.util.ArrayList;
import java.util.HashSet;
import java.util.List;
import java.util.Set;
import java.util.TreeSet;

/** The sentences of the document, and which of them were looked at by a case that quotes them. */
final class Sentences {
    static final int PROMISES = 83;
    private static final int DESCRIPTION = 0;
    private static final Path DOCUMENT = Path.of("../shared/DOC.md");
    private static final String ERRORS =
            "BAD_ARGUMENT|NONE|FULL|NOT_POSSIBLE|EMPTY_SLOT|WRONG_KIND|INDEX_OUT_OF_RANGE|NEGATIVE_SIZE|NO_VALUE";
    // Headings, and what no call can answer.
    private static final Set<String> NOT_TO_BE_SEEN = Set.of("Vertex covers.", "Simplicial elimination.", "Monomials.",
            "Powers.", "Linear quotients.", "Tests.", "List.", "Input syntax.", "Slots.", "Change history.",
            "The class is not thread-safe.");

    private static final String[] SECTIONS = readSections();
    private static final List<Set<String>> QUOTES = new ArrayList<>();
    private static final List<Set<Long>> ANSWERS = new ArrayList<>();

    static {
        for (int section = 0; section <= PROMISES; section++) {
            QUOTES.add(new TreeSet<>());
            ANSWERS.add(new HashSet<>());
        }
    }

    private Sentences() {
    }

    private static String[] readSections() {
        String text;
        try {
            text = Files.readString(DOCUMENT);
        } catch (IOException e) {
            throw new UncheckedIOException(e);
        }
        String[] sections = new String[PROMISES + 1];
        for (String part : text.split("(?m)^## ")) {
            String head = part.lines().findFirst().orElse("");
            String body = part.substring(head.length());
            if (head.equals("Description")) {
                sections[DESCRIPTION] = body.substring(0, body.indexOf("Examples."));
            } else if (head.startsWith("Promise ")) {
                sections[Integer.parseInt(head.substring(8, head.indexOf(':')))] = body;
            }
        }
        return sections;
    }

    private static String inOneLine(String text) {
        return text.trim().replaceAll("\\s+", " ");
    }

    static boolean stands(int promise, String quote) {
        return inOneLine(SECTIONS[promise]).contains(quote) || inOneLine(SECTIONS[DESCRIPTION]).contains(quote);
    }

    static void lookedAt(int promise, String quote, long answer) {
        boolean ownWords = inOneLine(SECTIONS[promise]).contains(quote);
        QUOTES.get(ownWords ? promise : DESCRIPTION).add(quote);
        ANSWERS.get(promise).add(answer);
    }

    /** Sentences, parts of them that a semicolon or an error code begins, and what is said of an argument. */
    private static List<String> sentencesOf(String section) {
        List<String> sentences = new ArrayList<>();
        for (String paragraph : section.split("\n\n|\n(?=- )")) {
            String line = inOneLine(paragraph);
            if (line.startsWith("- ")) {
                sentences.add(line.substring(2));
            } else if (!line.isEmpty() && !line.startsWith("`")) {
                sentences.addAll(List.of(line.split("(?<=[.;])\\s+|,\\s+or\\s+(?=" + ERRORS + ")")));
            }
        }
        return sentences;
    }

    private static boolean isQuoted(int section, String sentence) {
        for (String quote : QUOTES.get(section)) {
            if (sentence.contains(quote) || quote.contains(sentence)) {
                return true;
            }
        }
        return false;
    }

    static void everySentenceLookedAt() {
        for (int section = 0; section <= PROMISES; section++) {
            for (String sentence : sentencesOf(SECTIONS[section])) {
                Check.dueTrue("a case quotes, of " + (section == 0 ? "the description" : "promise " + section) + ": "
                        + sentence, NOT_TO_BE_SEEN.contains(sentence) || isQuoted(section, sentence));
            }
        }
    }

    static void everyErrorSeen() throws ReflectiveOperationException {
        for (int promise = 1; promise <= PROMISES; promise++) {
            for (String error : ERRORS.split("\\|")) {
                if (SECTIONS[promise].matches("(?s).*\\b" + error + "\\b.*")) {
                    long code = ((Number) EdgeIdeals.class.getField(error).get(null)).longValue();
                    Check.dueTrue("a case of promise " + promise + " has the answer " + error,
                            ANSWERS.get(promise).contains(code));
                }
            }
        }
    }
}
