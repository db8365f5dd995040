import java.io.IOException;
import java.lang.reflect.InvocationTargetException;
import java.lang.reflect.Method;
import java.lang.reflect.Modifier;
import java.nio.file.Files;
import java.nio.file.Path;
import java.util.ArrayList;
import java.util.List;
import java.util.Set;
import java.util.TreeSet;
import java.util.regex.Matcher;
import java.util.regex.Pattern;

/**
 * Runs the example of README.md as it stands there, so that it can't fall behind the class: every line is a call
 * on one shop, and its comment begins with the answer (or the exception's name). README.md is looked for in the
 * folder in which .ci/run starts the tests.
 */
public final class ReadmeTests {
    private static final Pattern CALL =
        Pattern.compile("shop\\.(\\w+)\\(((?:-?\\d+(?:, -?\\d+)*)?)\\); +// (-?\\w+): .+");
    private static final String MAKING = "QuireShop shop = new QuireShop();";

    private static int wrong = 0;

    private static void tell(String what) {
        wrong++;
        System.out.println(what);
    }

    /** The lines of the first block of that kind; none if there is no such block. */
    private static List<String> block(List<String> readme, String kind) {
        int start = readme.indexOf("```" + kind);
        List<String> lines = new ArrayList<>();
        for (int i = start + 1; start >= 0 && i < readme.size() && !readme.get(i).equals("```"); i++) {
            lines.add(readme.get(i));
        }
        return lines;
    }

    private static Object[] numbers(String told) {
        String[] parts = told.isEmpty() ? new String[0] : told.split(", ");
        Object[] numbers = new Object[parts.length];
        for (int i = 0; i < parts.length; i++) {
            numbers[i] = Integer.parseInt(parts[i]);
        }
        return numbers;
    }

    private static String answer(QuireShop shop, String name, Object[] numbers) throws ReflectiveOperationException {
        Class<?>[] types = new Class<?>[numbers.length];
        for (int i = 0; i < types.length; i++) {
            types[i] = int.class;
        }
        try {
            return String.valueOf(QuireShop.class.getMethod(name, types).invoke(shop, numbers));
        } catch (InvocationTargetException e) {
            return e.getCause().getClass().getSimpleName();
        }
    }

    private static Set<String> face() {
        Set<String> names = new TreeSet<>();
        for (Method method : QuireShop.class.getDeclaredMethods()) {
            if (Modifier.isPublic(method.getModifiers())) {
                names.add(method.getName());
            }
        }
        return names;
    }

    private static void exampleHolds(List<String> example) throws ReflectiveOperationException {
        if (example.isEmpty() || !example.get(0).equals(MAKING)) {
            tell("README.md has no example that begins with " + MAKING);
            return;
        }
        QuireShop shop = new QuireShop();
        Set<String> unused = face();
        for (String line : example.subList(1, example.size())) {
            Matcher call = CALL.matcher(line);
            if (!call.matches()) {
                tell("README.md: this line of the example is no call with its answer: " + line);
                continue;
            }
            unused.remove(call.group(1));
            String got = answer(shop, call.group(1), numbers(call.group(2)));
            if (!got.equals(call.group(3))) {
                tell("README.md: " + line + " -- but the answer is " + got);
            }
        }
        if (!unused.isEmpty()) {
            tell("README.md: the example leaves out " + unused);
        }
    }

    private static void commandIsThere(List<String> commands) {
        if (!commands.equals(List.of(".ci/run")) || !Files.isRegularFile(Path.of(".ci/run"))) {
            tell("README.md: the command that runs the tests is told as " + commands);
        }
    }

    public static void main(String[] args) throws IOException, ReflectiveOperationException {
        List<String> readme = Files.readAllLines(Path.of("README.md"));
        List<String> example = block(readme, "java");
        exampleHolds(example);
        commandIsThere(block(readme, "sh"));
        System.out.println(example.size() + " lines of README.md, " + wrong + " wrong");
        if (wrong != 0) {
            System.exit(1);
        }
    }
}
