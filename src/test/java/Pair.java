import java.lang.reflect.InvocationTargetException;
import java.lang.reflect.Method;
import java.util.Arrays;
import java.util.HashMap;
import java.util.Map;

/** An object of EdgeIdeals and its model; both are asked the same, and their answers are compared. */
final class Pair {
    private static final Map<String, Method> PROGRAM = methodsOf(EdgeIdeals.class);
    private static final Map<String, Method> MODEL = methodsOf(Model.class);
    static int asked = 0;
    static int wrong = 0;

    private final EdgeIdeals program = new EdgeIdeals();
    private final Model model = new Model();
    private final StringBuilder calls = new StringBuilder();

    private static Map<String, Method> methodsOf(Class<?> type) {
        Map<String, Method> methods = new HashMap<>();
        for (Method method : type.getDeclaredMethods()) {
            if (java.lang.reflect.Modifier.isPublic(method.getModifiers())) {
                methods.put(method.getName(), method);
            }
        }
        return methods;
    }

    long ask(String name, int... arguments) {
        Object[] boxed = Arrays.stream(arguments).boxed().toArray();
        long due = answer(MODEL.get(name), model, boxed);
        String call = name + Arrays.toString(arguments);
        if (calls.length() < 20000) {
            calls.append(call).append(" = ").append(due).append("; ");
        }
        long got;
        try {
            got = answer(PROGRAM.get(name), program, boxed);
        } catch (IllegalStateException thrown) {
            complain(call + " threw " + thrown.getCause() + ", due is " + due);
            return due;
        }
        asked++;
        if (got != due) {
            complain(call + " answered " + got + ", due is " + due);
        }
        return due;
    }

    private void complain(String what) {
        wrong++;
        if (wrong <= 10) {
            System.out.println(what + "\n  after " + calls);
        }
    }

    private static long answer(Method method, Object object, Object[] arguments) {
        try {
            return ((Number) method.invoke(object, arguments)).longValue();
        } catch (InvocationTargetException thrown) {
            throw new IllegalStateException(method.getName(), thrown.getCause());
        } catch (IllegalAccessException thrown) {
            throw new AssertionError(thrown);
        }
    }

    static void finish() {
        System.out.println(asked + " answers compared with the model, " + wrong + " differ");
        if (wrong != 0) {
            System.exit(1);
        }
    }
}
