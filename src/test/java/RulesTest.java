import java.io.IOException;
import java.lang.reflect.Constructor;
import java.lang.reflect.Field;
import java.lang.reflect.Method;
import java.lang.reflect.Modifier;
import java.nio.file.Files;
import java.nio.file.Path;
import java.util.Arrays;
import java.util.Set;
import java.util.TreeSet;
import java.util.regex.Matcher;
import java.util.regex.Pattern;

/** The face of the document, and those rules of LANGUAGE.md that can be seen from outside or in the text. */
public final class RulesTest {
    private static final Path SOURCE = Path.of("src/main/java/EdgeIdeals.java");
    private static final Path DOCUMENT = Path.of("../shared/DOC.md");
    private static final String[] FORBIDDEN = {"throw", "throws", "try", "catch", "finally", "synchronized", "assert",
        "import", "package", "protected", "volatile", "transient", "native", "var", "instanceof", "System.out",
        "hashCode", "toString", "equals", "lambda", "Thread", "Random", "Object", "->", "::", "@"};

    private static Set<String> faceOfDocument() throws IOException {
        String text = Files.readString(DOCUMENT);
        String block = text.substring(text.indexOf("```java") + 7, text.indexOf("```", text.indexOf("```java") + 7));
        Set<String> face = new TreeSet<>();
        for (String line : block.split("\n")) {
            String member = line.trim();
            if (member.startsWith("public ") && !member.contains(" class ")) {
                face.add(member.replaceAll("(int|long) \\w+(?=[,)])", "$1").replaceAll("Long.MIN_VALUE", ""
                        + Long.MIN_VALUE).replace(";", ""));
            }
        }
        return face;
    }

    private static Set<String> faceOfClass() throws IllegalAccessException {
        Set<String> face = new TreeSet<>();
        for (Field field : EdgeIdeals.class.getDeclaredFields()) {
            if (!Modifier.isPrivate(field.getModifiers())) {
                face.add(Modifier.toString(field.getModifiers()) + " " + field.getType() + " " + field.getName() + " = "
                        + field.get(null));
            }
        }
        for (Constructor<?> constructor : EdgeIdeals.class.getDeclaredConstructors()) {
            face.add(Modifier.toString(constructor.getModifiers()) + " EdgeIdeals"
                    + parameters(constructor.getParameterTypes()));
        }
        for (Method method : EdgeIdeals.class.getDeclaredMethods()) {
            if (!Modifier.isPrivate(method.getModifiers())) {
                face.add(Modifier.toString(method.getModifiers()) + " " + method.getReturnType() + " "
                        + method.getName() + parameters(method.getParameterTypes()));
            }
        }
        return face;
    }

    private static String parameters(Class<?>[] types) {
        return Arrays.toString(types).replace('[', '(').replace(']', ')');
    }

    private static void theFace() throws IOException, IllegalAccessException {
        Set<String> document = faceOfDocument();
        Set<String> program = faceOfClass();
        Check.dueTrue("the document's face has 9 constants, a constructor and 82 methods", document.size() == 92);
        for (String member : document) {
            Check.dueTrue("the class has " + member, program.contains(member));
        }
        for (String member : program) {
            Check.dueTrue("the document has " + member, document.contains(member));
        }
        Check.dueTrue("the class is public and final",
                Modifier.toString(EdgeIdeals.class.getModifiers()).equals("public final"));
    }

    private static void classesInside() {
        Class<?>[] inside = EdgeIdeals.class.getDeclaredClasses();
        Check.dueTrue("at most twelve classes", inside.length + 1 <= 12);
        Set<String> publicNames = new TreeSet<>();
        for (Method method : EdgeIdeals.class.getMethods()) {
            publicNames.add(method.getName());
        }
        for (Class<?> type : inside) {
            Check.dueTrue(type + " is static and private",
                    Modifier.isStatic(type.getModifiers()) && Modifier.isPrivate(type.getModifiers()));
            for (Method method : type.getDeclaredMethods()) {
                Check.dueTrue(method + " has a name of its own", !publicNames.contains(method.getName()));
            }
            for (Field field : type.getDeclaredFields()) {
                Check.dueTrue(field + " is no static state", !Modifier.isStatic(field.getModifiers())
                        || Modifier.isFinal(field.getModifiers()));
            }
        }
        for (Method method : EdgeIdeals.class.getDeclaredMethods()) {
            Check.dueTrue(method + " has a name of its own", !Modifier.isPrivate(method.getModifiers())
                    || !publicNames.contains(method.getName()));
        }
    }

    private static void theText() throws IOException {
        String text = Files.readString(SOURCE);
        Check.dueTrue("only ASCII", text.chars().allMatch(c -> c == '\n' || c >= ' ' && c < 127));
        String code = text.replaceAll("(?s)/\\*.*?\\*/", "").replaceAll("//[^\n]*", "");
        for (String word : FORBIDDEN) {
            String pattern = Character.isLetter(word.charAt(0)) ? "\\b" + Pattern.quote(word) + "\\b"
                    : Pattern.quote(word);
            Check.dueTrue("no '" + word + "' in the class", !Pattern.compile(pattern).matcher(code).find());
        }
        String beginning = "(?m)^( {4}| {8})(?=\\w)[\\w\\[\\] ]+\\([^)]*\\) \\{\n";
        Matcher method = Pattern.compile(beginning + "(?s:.*?)^\\1\\}").matcher(text);
        int found = 0;
        while (method.find()) {
            found++;
            String head = method.group().lines().findFirst().orElse("");
            Check.dueTrue("at most sixty lines: " + head, method.group().lines().count() <= 60);
            Check.dueTrue("at most seven parameters: " + head, head.split(",").length <= 7);
        }
        Check.dueTrue("the methods were found", found > 150);
    }

    public static void main(String[] args) throws IOException, IllegalAccessException {
        theFace();
        classesInside();
        theText();
        Check.finish();
    }
}
