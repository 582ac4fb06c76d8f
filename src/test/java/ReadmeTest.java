import java.io.IOException;
import java.lang.reflect.Field;
import java.lang.reflect.Method;
import java.nio.file.Files;
import java.nio.file.Path;
import java.util.regex.Matcher;
import java.util.regex.Pattern;

/** What README.md says: the answers of its examples, all codes, all calls and all tests of the project. */
public final class ReadmeTest {
    private static final Path README = Path.of("README.md");
    private static final Path TESTS = Path.of("src/test/java");
    private static final Pattern CALL = Pattern.compile("x\\.(\\w+)\\((.*)\\); +// (-?\\d+)(:.*)?");

    private static void examples(String text) throws ReflectiveOperationException {
        int blocks = 0;
        Matcher block = Pattern.compile("(?s)```java\n(.*?)```").matcher(text);
        while (block.find()) {
            blocks++;
            EdgeIdeals x = null;
            for (String line : block.group(1).split("\n")) {
                Matcher call = CALL.matcher(line);
                if (line.equals("EdgeIdeals x = new EdgeIdeals();")) {
                    x = new EdgeIdeals();
                } else if (x != null && call.matches()) {
                    long got = Calls.answerOf(x, call.group(1), call.group(2));
                    Check.dueTrue(line + " (it answered " + got + ")", got == Long.parseLong(call.group(3)));
                } else {
                    Check.dueTrue("an example of the README is a call with its answer: " + line, false);
                }
            }
        }
        Check.dueTrue("the README has 4 examples, found " + blocks, blocks == 4);
    }

    private static void allCodes(String text) throws IllegalAccessException {
        for (Field constant : EdgeIdeals.class.getFields()) {
            String row = "| `" + constant.getName() + "` | " + constant.get(null) + " |";
            Check.dueTrue("the README has " + row, text.contains(row));
        }
    }

    private static void allCalls(String text) {
        String table = text.substring(text.indexOf("\n### All calls"), text.indexOf("\n## Tests"));
        int listed = 0;
        for (Method method : EdgeIdeals.class.getDeclaredMethods()) {
            if (java.lang.reflect.Modifier.isPublic(method.getModifiers())) {
                listed++;
                Check.dueTrue("the README lists " + method.getName(), table.contains("`" + method.getName() + "`"));
            }
        }
        Check.dueTrue("the README lists each call once", Pattern.compile("`\\w+`").matcher(table).results().count()
                == listed);
    }

    private static void allTests(String text) throws IOException {
        try (var files = Files.list(TESTS)) {
            files.map(file -> file.getFileName().toString()).filter(name -> name.endsWith("Test.java")).forEach(name ->
                    Check.dueTrue("the README tells of " + name, text.contains("`" + name.replace(".java", "") + "`")));
        }
    }

    public static void main(String[] args) throws IOException, ReflectiveOperationException {
        String text = Files.readString(README);
        examples(text);
        allCodes(text);
        allCalls(text);
        allTests(text);
        Check.finish();
    }
}
