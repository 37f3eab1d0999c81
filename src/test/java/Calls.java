import java.lang.reflect.Method;
import java.util.HashMap;
import java.util.Map;

/** Calls by name, so that a test can go through many of them by a table. */
final class Calls {
    private static final Map<Class<?>, Map<String, Method>> KNOWN = new HashMap<>();

    private Calls() {
    }

    /** The answer to a call of the class or of the Model, with as many of the numbers as it takes. */
    static int ask(Object x, String name, int... numbers) throws ReflectiveOperationException {
        Method method = KNOWN.computeIfAbsent(x.getClass(), Calls::methodsOf).get(name);
        Object[] taken = new Object[method.getParameterCount()];
        for (int i = 0; i < taken.length; i++) taken[i] = numbers[i];
        return (int) method.invoke(x, taken);
    }

    private static Map<String, Method> methodsOf(Class<?> c) {
        Map<String, Method> methods = new HashMap<>();
        for (Method method : c.getDeclaredMethods()) methods.put(method.getName(), method);
        return methods;
    }

    static String text(String name, int... numbers) {
        StringBuilder text = new StringBuilder(name).append('(');
        for (int i = 0; i < numbers.length; i++) text.append(i > 0 ? ", " : "").append(numbers[i]);
        return text.append(')').toString();
    }

    /** All that can be asked for, as one text; the asking changes the object, so it comes last. */
    static String whole(SketchCache x) {
        StringBuilder text = new StringBuilder();
        for (int what = 0; what < 16; what++) text.append(x.about(what)).append(' ');
        for (int part = 0; part < 3; part++) {
            for (int i = 0; i < 100; i++) text.append(x.key(part, i)).append(' ');
        }
        for (int i = 0; i < 300; i++) text.append(x.trace(i)).append(' ');
        for (int i = 0; i < 30; i++) text.append(x.kept(i)).append(' ');
        for (int i = 0; i < 128; i++) text.append(x.bit(i)).append(' ');
        for (int row = 0; row < 4; row++) {
            for (int i = 0; i < 64; i++) text.append(x.counter(row, i)).append(' ');
        }
        for (int key = 0; key < 100; key++) {
            x.remove(key);
            text.append(x.size(key, 1)).append(' ');
            text.append(x.door(0, key, 0)).append(' ').append(x.door(1, key, 0)).append(' ');
            for (int row = 0; row < 4; row++) text.append(x.place(row, key, 0)).append(' ');
        }
        int[] least = {0, 0, 10, 0, 0, 5};
        for (int what = 0; what < 6; what++) text.append(x.rule(what, least[what])).append(' ');
        return text.toString();
    }
}
