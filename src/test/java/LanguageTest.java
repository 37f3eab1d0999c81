import java.io.IOException;
import java.lang.reflect.Constructor;
import java.lang.reflect.Field;
import java.lang.reflect.Method;
import java.lang.reflect.Modifier;
import java.nio.file.Files;
import java.nio.file.Path;
import java.util.ArrayList;
import java.util.List;
import java.util.Set;
import java.util.TreeSet;
import java.util.regex.Matcher;
import java.util.regex.Pattern;

/** The document's face, and those rules of LANGUAGE.md that can be seen from outside or in the text. */
public final class LanguageTest {
    private static final Due DUE = new Due("LanguageTest");
    private static final String[] FACE = {
        "int place(int, int, int)", "int door(int, int, int)", "int rule(int, int)", "int size(int, int)",
        "int access(int)", "int run(int, int, int)", "int add(int)", "int estimate(int)", "int counter(int, int)",
        "int bit(int)", "int remove(int)", "int where(int)", "int key(int, int)", "int about(int)", "int trace(int)",
        "int replay(int, int, int, int)", "int kept(int)", "int save(int)", "int load(int)", "int sound()"};

    private static void none(String what, Set<String> found) {
        DUE.is(what + " " + found, found.size(), 0);
    }

    private static String signature(Method method) {
        List<String> types = new ArrayList<>();
        for (Class<?> type : method.getParameterTypes()) types.add(type.getName());
        return method.getReturnType().getName() + " " + method.getName() + "(" + String.join(", ", types) + ")";
    }

    private static void face() throws ReflectiveOperationException {
        Set<String> due = new TreeSet<>(List.of(FACE));
        Set<String> methods = new TreeSet<>();
        Set<String> hidden = new TreeSet<>();
        for (Method method : SketchCache.class.getDeclaredMethods()) {
            if (Modifier.isPublic(method.getModifiers())) methods.add(signature(method));
            else if (!Modifier.isPrivate(method.getModifiers())) hidden.add(method.getName());
        }
        for (Field field : SketchCache.class.getDeclaredFields()) {
            boolean constant = Modifier.isPublic(field.getModifiers());
            if (constant) methods.add(field.getName());
            else if (!Modifier.isPrivate(field.getModifiers())) hidden.add(field.getName());
        }
        due.addAll(List.of("NONE", "BAD", "REFUSED"));
        DUE.is("the face is " + methods, methods.equals(due) ? 1 : 0, 1);
        none("rule 1: members that are neither public nor private", hidden);
        DUE.is("constructors", SketchCache.class.getDeclaredConstructors().length, 1);
        Constructor<?> made = SketchCache.class.getDeclaredConstructor(int.class, int.class, int.class);
        DUE.is("a public constructor", Modifier.isPublic(made.getModifiers()) ? 1 : 0, 1);
        DUE.is("a final class", Modifier.isFinal(SketchCache.class.getModifiers()) ? 1 : 0, 1);
        DUE.is("NONE", SketchCache.NONE, -1);
        DUE.is("BAD", SketchCache.BAD, -2);
        DUE.is("REFUSED", SketchCache.REFUSED, -3);
    }

    private static void classes() {
        Set<String> names = new TreeSet<>();
        for (Method method : SketchCache.class.getDeclaredMethods()) {
            if (Modifier.isPublic(method.getModifiers())) names.add(method.getName());
        }
        Set<String> wrong = new TreeSet<>();
        Class<?>[] inside = SketchCache.class.getDeclaredClasses();
        for (Class<?> c : inside) {
            int m = c.getModifiers();
            if (!Modifier.isStatic(m) || Modifier.isPublic(m) || Modifier.isProtected(m)) wrong.add(c.getName());
            for (Method method : c.getDeclaredMethods()) {
                if (names.contains(method.getName())) wrong.add(c.getName() + "." + method.getName());
            }
            for (Field field : c.getDeclaredFields()) {
                boolean fixed = Modifier.isFinal(field.getModifiers());
                if (Modifier.isStatic(field.getModifiers()) && !fixed) wrong.add(c.getName() + "." + field.getName());
            }
            if (fieldsBesideConstants(c) > 20) wrong.add(c.getName() + " has too many fields");
        }
        none("rules 1, 2, 5 and 11", wrong);
        DUE.is("rule 11: twelve classes at most", inside.length + 1 <= 12 ? 1 : 0, 1);
    }

    private static int fieldsBesideConstants(Class<?> c) {
        int count = 0;
        for (Field field : c.getDeclaredFields()) count += Modifier.isStatic(field.getModifiers()) ? 0 : 1;
        return count;
    }

    private static void words(String code) {
        String[] refused = {
            "\\bthrows?\\b", "\\btry\\b", "\\bcatch\\b", "\\bsynchronized\\b", "\\bassert\\b", "->", "::", "\\w+Exact\\b",
            "\\bpackage\\b", "\\bRandom\\b", "\\bThread\\b", "\\bcurrentTimeMillis\\b", "\\bnanoTime\\b", "\\bfloat\\b",
            "\\bhashCode\\b", "\\btoString\\b", "\\bObject\\b", "\\bException\\b", "\\bstatic\\s*\\{", "@\\w+",
            "\\bSystem\\.(?!arraycopy\\b)", "\\bArrays\\.(?!(fill|copyOf|copyOfRange)\\b)", "\\bimport (?!java\\.util\\.Arrays;)"};
        Set<String> found = new TreeSet<>();
        for (String pattern : refused) {
            Matcher matcher = Pattern.compile(pattern).matcher(code);
            if (matcher.find()) found.add(matcher.group());
        }
        none("rules 4, 6 and 13: words", found);
    }

    /** Counts from a line that opens a method to the line that closes it at the same depth. */
    private static void lengths(List<String> lines) {
        Pattern opens = Pattern.compile("^( {4}| {8})[a-zA-Z].*\\(.*\\) \\{$");
        Set<String> wrong = new TreeSet<>();
        for (int i = 0; i < lines.size(); i++) {
            Matcher matcher = opens.matcher(lines.get(i));
            if (!matcher.matches()) continue;
            int end = i;
            while (end < lines.size() && !lines.get(end).equals(matcher.group(1) + "}")) end++;
            if (end - i + 1 > 60) wrong.add(lines.get(i).trim());
            if (lines.get(i).split(",").length > 7) wrong.add(lines.get(i).trim());
        }
        none("rule 11: long methods, or of more than seven parameters", wrong);
    }

    public static void main(String[] args) throws IOException, ReflectiveOperationException {
        Path file = Path.of("src/main/java/SketchCache.java");
        String text = Files.readString(file);
        String code = text.replaceAll("(?s)/\\*.*?\\*/", "").replaceAll("//[^\n]*", "");
        face();
        classes();
        words(code);
        lengths(List.of(code.split("\n")));
        DUE.end();
    }
}
