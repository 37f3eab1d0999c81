import java.io.IOException;
import java.lang.reflect.Method;
import java.lang.reflect.Modifier;
import java.nio.file.Files;
import java.nio.file.Path;
import java.util.Arrays;
import java.util.regex.Matcher;
import java.util.regex.Pattern;

/** README.md's example: each call in it answers the number that its comment begins with. */
public final class ReadmeTest {
    private static final Due DUE = new Due("ReadmeTest");
    private static final Pattern MADE = Pattern.compile("new SketchCache\\((\\d+), (\\d+), (\\d+)\\);");
    private static final Pattern CALL = Pattern.compile("^cache\\.(\\w+)\\(([\\d, -]*)\\); +// (-?\\d+): ");

    private static int[] numbers(String text) {
        if (text.isEmpty()) return new int[0];
        return Arrays.stream(text.split(", ")).mapToInt(Integer::parseInt).toArray();
    }

    private static SketchCache made(String readme) {
        Matcher matcher = MADE.matcher(readme);
        DUE.is("the example makes an object", matcher.find() ? 1 : 0, 1);
        int[] given = numbers(matcher.group(1) + ", " + matcher.group(2) + ", " + matcher.group(3));
        return new SketchCache(given[0], given[1], given[2]);
    }

    private static void example(String readme) throws ReflectiveOperationException {
        SketchCache x = made(readme);
        for (String line : readme.split("\n")) {
            if (!line.startsWith("cache.")) continue;
            Matcher matcher = CALL.matcher(line);
            DUE.is("a call with its answer: " + line, matcher.find() ? 1 : 0, 1);
            int[] given = numbers(matcher.group(2));
            String call = Calls.text(matcher.group(1), given);
            DUE.is(call, Calls.ask(x, matcher.group(1), given), Integer.parseInt(matcher.group(3)));
        }
    }

    /** The table has a line for each call of the face, with as many numbers as it takes. */
    private static void table(String readme) {
        for (Method method : SketchCache.class.getDeclaredMethods()) {
            if (!Modifier.isPublic(method.getModifiers())) continue;
            Matcher matcher = Pattern.compile("\\| `" + method.getName() + "\\(([^)]*)\\)` \\|").matcher(readme);
            boolean there = matcher.find();
            DUE.is("README.md tells of " + method.getName(), there ? 1 : 0, 1);
            if (!there) continue;
            int told = matcher.group(1).isEmpty() ? 0 : matcher.group(1).split(", ").length;
            DUE.is("numbers of " + method.getName(), told, method.getParameterCount());
        }
    }

    public static void main(String[] args) throws IOException, ReflectiveOperationException {
        String readme = Files.readString(Path.of("README.md"));
        example(readme);
        table(readme);
        DUE.end();
    }
}
