import java.lang.reflect.Constructor;
import java.lang.reflect.Field;
import java.lang.reflect.Method;
import java.lang.reflect.Modifier;
import java.util.ArrayList;
import java.util.List;
import java.util.Set;
import java.util.TreeSet;

/** The document's face, and those rules of LANGUAGE.md that the compiled class shows; SourceTest has the others. */
public final class LanguageTest {
    private static final Due DUE = new Due("LanguageTest");
    private static final String[] FACE = {
        "int place(int, int, int)", "int door(int, int, int)", "int rule(int, int)", "int size(int, int)",
        "int access(int)", "int run(int, int, int)", "int add(int)", "int estimate(int)", "int counter(int, int)",
        "int bit(int)", "int remove(int)", "int where(int)", "int key(int, int)", "int about(int)", "int trace(int)",
        "int replay(int, int, int, int)", "int kept(int)", "int save(int)", "int load(int)", "int sound()"};

    private static void none(String what, Set<String> found) {
        DUE.is(what + " " + found, found.size(), 0);
    }

    private static String signature(Method method) {
        List<String> types = new ArrayList<>();
        for (Class<?> type : method.getParameterTypes()) types.add(type.getName());
        return method.getReturnType().getName() + " " + method.getName() + "(" + String.join(", ", types) + ")";
    }

    private static void face() throws ReflectiveOperationException {
        Set<String> due = new TreeSet<>(List.of(FACE));
        Set<String> methods = new TreeSet<>();
        Set<String> hidden = new TreeSet<>();
        for (Method method : SketchCache.class.getDeclaredMethods()) {
            if (Modifier.isPublic(method.getModifiers())) methods.add(signature(method));
            else if (!Modifier.isPrivate(method.getModifiers())) hidden.add(method.getName());
        }
        for (Field field : SketchCache.class.getDeclaredFields()) {
            boolean constant = Modifier.isPublic(field.getModifiers());
            if (constant) methods.add(field.getName());
            else if (!Modifier.isPrivate(field.getModifiers())) hidden.add(field.getName());
        }
        due.addAll(List.of("NONE", "BAD", "REFUSED"));
        DUE.is("the face is " + methods, methods.equals(due) ? 1 : 0, 1);
        none("rule 1: members that are neither public nor private", hidden);
        DUE.is("constructors", SketchCache.class.getDeclaredConstructors().length, 1);
        Constructor<?> made = SketchCache.class.getDeclaredConstructor(int.class, int.class, int.class);
        DUE.is("a public constructor", Modifier.isPublic(made.getModifiers()) ? 1 : 0, 1);
        DUE.is("a final class", Modifier.isFinal(SketchCache.class.getModifiers()) ? 1 : 0, 1);
        DUE.is("NONE", SketchCache.NONE, -1);
        DUE.is("BAD", SketchCache.BAD, -2);
        DUE.is("REFUSED", SketchCache.REFUSED, -3);
    }

    private static void classes() {
        Set<String> names = new TreeSet<>();
        for (Method method : SketchCache.class.getDeclaredMethods()) {
            if (Modifier.isPublic(method.getModifiers())) names.add(method.getName());
        }
        Set<String> wrong = new TreeSet<>();
        for (Method method : SketchCache.class.getDeclaredMethods()) {
            boolean named = Modifier.isPrivate(method.getModifiers()) && names.contains(method.getName());
            if (named) wrong.add("private " + method.getName());
        }
        for (Class<?> c : SketchCache.class.getDeclaredClasses()) {
            int m = c.getModifiers();
            if (!Modifier.isStatic(m) || Modifier.isPublic(m) || Modifier.isProtected(m)) wrong.add(c.getName());
            for (Method method : c.getDeclaredMethods()) {
                if (names.contains(method.getName())) wrong.add(c.getName() + "." + method.getName());
            }
            for (Field field : c.getDeclaredFields()) {
                boolean fixed = Modifier.isFinal(field.getModifiers());
                if (Modifier.isStatic(field.getModifiers()) && !fixed) wrong.add(c.getName() + "." + field.getName());
            }
        }
        none("rules 1, 2 and 5", wrong);
    }

    public static void main(String[] args) throws ReflectiveOperationException {
        face();
        classes();
        DUE.end();
    }
}
