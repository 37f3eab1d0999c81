import java.lang.reflect.Method;
import java.lang.reflect.Modifier;
import java.util.Arrays;
import java.util.Comparator;

/** Every method with every mixture of numbers at and far beyond the limits: no call throws, and all answer as the Model. */
public final class WrongInputTest {
    private static final int[] NUMBERS = {
        Integer.MIN_VALUE, Integer.MIN_VALUE + 1, -100, -2, -1, 0, 1, 2, 3, 4, 5, 6, 10, 15, 16, 20, 21, 30, 31, 63, 64,
        99, 100, 101, 127, 128, 299, 300, 500, 501, 1000, 1001, Integer.MAX_VALUE - 1, Integer.MAX_VALUE};
    private static final int[] FEWER = {Integer.MIN_VALUE, -1, 0, 1, 5, 30, 31, 99, 300, 301, Integer.MAX_VALUE};

    private static int due(Model model, Method method, Object[] args) throws ReflectiveOperationException {
        return (int) Model.class.getDeclaredMethod(method.getName(), method.getParameterTypes()).invoke(model, args);
    }

    private static void call(Due due, SketchCache x, Model model, Method method, Object... args) throws ReflectiveOperationException {
        int want = due(model, method, args);
        due.is(method.getName() + Arrays.toString(args), (int) method.invoke(x, args), want);
    }

    private static void callAll(Due due, SketchCache x, Model model, Method method) throws ReflectiveOperationException {
        int parameters = method.getParameterCount();
        int[] numbers = parameters > 3 ? FEWER : NUMBERS;
        int mixtures = (int) Math.pow(numbers.length, parameters);
        for (int i = 0; i < mixtures; i++) {
            Object[] args = new Object[parameters];
            int rest = i;
            for (int p = 0; p < parameters; p++) {
                args[p] = numbers[rest % numbers.length];
                rest /= numbers.length;
            }
            call(due, x, model, method, args);
        }
    }

    public static void main(String[] args) throws ReflectiveOperationException {
        Due due = new Due("WrongInputTest");
        int[][] made = {{1, 4, 1}, {4, 30, 5}, {2, 200, 199}};
        for (int[] m : made) {
            SketchCache x = new SketchCache(m[0], m[1], m[2]);
            Model model = new Model(m[0], m[1], m[2]);
            due.is("run(0, 7, 100)", x.run(0, 7, 100), model.run(0, 7, 100));
            Method[] methods = SketchCache.class.getDeclaredMethods();
            Arrays.sort(methods, Comparator.comparing(Method::getName));
            for (Method method : methods) {
                String name = method.getName();
                boolean face = Modifier.isPublic(method.getModifiers());
                if (face && !name.equals("save") && !name.equals("load")) {
                    callAll(due, x, model, method);
                }
            }
            due.is("sound() behind all of it", x.sound(), 1);
        }
        due.end();
    }
}
