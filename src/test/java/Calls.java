import java.lang.reflect.Method;
import java.util.regex.Pattern;

/** Calls that are written in a text, the document or the README. */
final class Calls {
    private static final Pattern CHARACTER = Pattern.compile("'(.)'");

    private Calls() {
    }

    /** The arguments are numbers or characters in quotes, separated by commas. */
    static long answerOf(EdgeIdeals x, String name, String arguments) throws ReflectiveOperationException {
        String numbers = CHARACTER.matcher(arguments).replaceAll(found -> "" + (int) found.group(1).charAt(0));
        String[] texts = numbers.isEmpty() ? new String[0] : numbers.split(",");
        Object[] values = new Object[texts.length];
        Class<?>[] types = new Class<?>[texts.length];
        for (int k = 0; k < texts.length; k++) {
            values[k] = Integer.parseInt(texts[k].trim());
            types[k] = int.class;
        }
        Method method = EdgeIdeals.class.getMethod(name, types);
        return ((Number) method.invoke(x, values)).longValue();
    }
}
