import java.io.IOException;
import java.lang.reflect.Field;
import java.lang.reflect.InvocationTargetException;
import java.lang.reflect.Method;
import java.lang.reflect.Modifier;
import java.nio.file.Files;
import java.nio.file.Path;
import java.util.Set;
import java.util.TreeSet;
import java.util.regex.Matcher;
import java.util.regex.Pattern;
import java.util.stream.Collectors;
import java.util.stream.Stream;

/** What README.md says: its examples, and the calls, constants and tests that it names. */
public final class ReadmeTests {
    private static final Path PAGE = Path.of("README.md");
    private static final Path TESTS = Path.of("src/test/java");
    private static final Pattern EXAMPLE = Pattern.compile("(?s)```java\n(.*?)```");
    private static final Pattern CALL = Pattern.compile("device\\.(\\w+)\\((.*)\\);\\s*// (-?\\d+)(: .*)?");
    private static final Pattern ROW = Pattern.compile("(?m)^\\| `(\\w+)\\(([^)]*)\\)` \\|");
    private static final Pattern CONSTANT = Pattern.compile("`([A-Z_]+)` \\((-?\\d+)\\)");
    private static final Pattern NAMED_IN_REMARK = Pattern.compile("// (-?\\d+): TrialBoots\\.([A-Z_]+)");
    private static final Pattern TEST = Pattern.compile("`(\\w+Tests)`");
    private static final String PREFIX = "TrialBoots.";
    private static final String NEW_OBJECT = "TrialBoots device = new TrialBoots();";

    private static int wrong = 0;

    public static void main(String[] args) throws IOException, ReflectiveOperationException {
        String page = Files.readString(PAGE);
        examples(page);
        calls(page);
        constants(page);
        tests(page);
        System.out.println(wrong == 0 ? "README.md says what is so" : wrong + " things in README.md are not so");
        if (wrong != 0) {
            System.exit(1);
        }
    }

    private static void same(String what, Object is, Object due) {
        if (!is.equals(due)) {
            wrong++;
            System.out.println(what + ": README.md says " + is + ", but it is " + due);
        }
    }

    // ---- the examples

    private static void examples(String page) throws ReflectiveOperationException {
        int found = 0;
        Matcher example = EXAMPLE.matcher(page);
        while (example.find()) {
            found++;
            example(example.group(1).split("\n"));
        }
        same("there are examples", found > 0, true);
    }

    private static void example(String[] lines) throws ReflectiveOperationException {
        same("the first line", lines[0], NEW_OBJECT);
        TrialBoots device = new TrialBoots();
        for (int i = 1; i < lines.length; i++) {
            Matcher call = CALL.matcher(lines[i]);
            if (call.matches()) {
                same(lines[i], Integer.valueOf(call.group(3)), answer(device, call.group(1), call.group(2)));
            } else {
                same("a line of an example", lines[i], "a call with its answer");
            }
        }
        remarks(String.join("\n", lines));
    }

    private static void remarks(String example) throws ReflectiveOperationException {
        Matcher remark = NAMED_IN_REMARK.matcher(example);
        while (remark.find()) {
            same(remark.group(2), Integer.valueOf(remark.group(1)), constant(remark.group(2)));
        }
    }

    private static Object answer(TrialBoots device, String name, String texts) throws ReflectiveOperationException {
        Method method = methodNamed(name);
        if (method == null) {
            return "no call";
        }
        Class<?>[] types = method.getParameterTypes();
        String[] parts = parts(texts);
        if (parts.length != types.length) {
            return "a call with " + types.length + " arguments";
        }
        Object[] arguments = new Object[types.length];
        for (int i = 0; i < types.length; i++) {
            arguments[i] = argument(types[i], parts[i]);
        }
        try {
            return method.invoke(device, arguments);
        } catch (InvocationTargetException thrown) {
            return thrown.getCause();
        }
    }

    private static Object argument(Class<?> type, String text) throws ReflectiveOperationException {
        if (type == boolean.class) {
            return Boolean.valueOf(text);
        }
        if (type == long.class) {
            return Long.decode(text.replace("L", ""));
        }
        return text.startsWith(PREFIX) ? constant(text.substring(PREFIX.length())) : Integer.valueOf(text);
    }

    private static String[] parts(String texts) {
        return texts.isEmpty() ? new String[0] : texts.split(", ");
    }

    // ---- what is named

    private static void calls(String page) {
        Set<String> named = new TreeSet<>();
        Matcher row = ROW.matcher(page);
        while (row.find()) {
            named.add(row.group(1) + " with " + parts(row.group(2)).length);
        }
        Set<String> there = publicMethods().map(m -> m.getName() + " with " + m.getParameterCount())
            .collect(Collectors.toCollection(TreeSet::new));
        same("the calls", named, there);
    }

    private static void constants(String page) throws ReflectiveOperationException {
        Set<String> named = new TreeSet<>();
        Matcher constant = CONSTANT.matcher(page);
        while (constant.find()) {
            named.add(constant.group(1) + " = " + constant.group(2));
        }
        Set<String> there = new TreeSet<>();
        for (Field field : TrialBoots.class.getFields()) {
            there.add(field.getName() + " = " + field.get(null));
        }
        same("the constants", named, there);
    }

    private static void tests(String page) throws IOException {
        Set<String> named = new TreeSet<>();
        Matcher test = TEST.matcher(page);
        while (test.find()) {
            named.add(test.group(1) + ".java");
        }
        try (Stream<Path> files = Files.list(TESTS)) {
            Stream<String> names = files.map(file -> file.getFileName().toString());
            same("the tests", named, names.collect(Collectors.toCollection(TreeSet::new)));
        }
    }

    private static Object constant(String name) throws ReflectiveOperationException {
        for (Field field : TrialBoots.class.getFields()) {
            if (field.getName().equals(name)) {
                return field.get(null);
            }
        }
        return "no constant " + name;
    }

    private static Method methodNamed(String name) {
        return publicMethods().filter(m -> m.getName().equals(name)).findFirst().orElse(null);
    }

    private static Stream<Method> publicMethods() {
        return Stream.of(TrialBoots.class.getDeclaredMethods()).filter(m -> Modifier.isPublic(m.getModifiers()));
    }
}
