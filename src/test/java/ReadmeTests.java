import java.lang.reflect.InvocationTargetException;
import java.lang.reflect.Method;
import java.lang.reflect.Modifier;
import java.nio.file.Files;
import java.nio.file.Path;
import java.util.List;
import java.util.TreeSet;
import java.util.regex.Matcher;
import java.util.regex.Pattern;
import java.util.stream.Stream;

/** README.md: the answers that its examples show are those of the class; every call, constant and test is told of. */
public final class ReadmeTests extends Faults {
    private static final Path README = Path.of("README.md");
    private static final Path TESTS = Path.of("src/test/java");
    private static final String MADE = "MixRounds mix = new MixRounds();";
    private static final Pattern CALL = Pattern.compile("mix\\.(\\w+)\\(((?:'.'|[^'()])*)\\); +// (-?\\d+|[A-Z]+)(?:: .*| \\.\\..*)?");
    private static final Pattern CONSTANT = Pattern.compile("\\| `([A-Z]+)` \\| (-\\d+) \\|.*");
    private static final TreeSet<String> shown = new TreeSet<>();

    private static Method called(String name, int parameters) {
        for (Method m : MixRounds.class.getDeclaredMethods()) {
            if (m.getName().equals(name) && m.getParameterCount() == parameters && Modifier.isPublic(m.getModifiers())) {
                return m;
            }
        }
        return null;
    }

    private static Object argument(String text, Class<?> type) {
        long v = text.startsWith("'") ? text.charAt(1) : Long.parseLong(text);
        if (type == long.class) {
            return v;
        }
        return (int) v;
    }

    private static long constant(String name) throws IllegalAccessException {
        try {
            return MixRounds.class.getField(name).getInt(null);
        } catch (NoSuchFieldException e) {
            hold(false, "README.md: there is no " + name);
            return 0;
        }
    }

    private static void example(MixRounds mix, String line) throws IllegalAccessException, InvocationTargetException {
        Matcher found = CALL.matcher(line);
        if (!found.matches()) {
            hold(false, "README.md shows no call with its answer: " + line);
            return;
        }
        String[] texts = found.group(2).isEmpty() ? new String[0] : found.group(2).split(", ");
        Method m = called(found.group(1), texts.length);
        if (m == null) {
            hold(false, "README.md: there is no such call: " + line);
            return;
        }
        Object[] arguments = new Object[texts.length];
        for (int k = 0; k < texts.length; k++) {
            arguments[k] = argument(texts[k], m.getParameterTypes()[k]);
        }
        long got = ((Number) m.invoke(mix, arguments)).longValue();
        String told = found.group(3);
        long want = Character.isLetter(told.charAt(0)) ? constant(told) : Long.parseLong(told);
        hold(got == want, "README.md: " + line + " but it answers " + got);
        shown.add(m.getName());
    }

    private static void examples(List<String> lines) throws IllegalAccessException, InvocationTargetException {
        MixRounds mix = null;
        boolean inside = false;
        for (String line : lines) {
            if (line.startsWith("```")) {
                inside = line.equals("```java");
                mix = null;
            } else if (inside && line.equals(MADE)) {
                mix = new MixRounds();
            } else if (inside && mix != null) {
                example(mix, line);
            } else {
                hold(!inside, "README.md: no object for " + line);
            }
        }
    }

    private static void constants(List<String> lines) throws IllegalAccessException {
        int rows = 0;
        for (String line : lines) {
            Matcher row = CONSTANT.matcher(line);
            if (row.matches()) {
                rows++;
                hold(constant(row.group(1)) == Long.parseLong(row.group(2)), "README.md: " + line);
            }
        }
        hold(rows == 8, "README.md tells " + rows + " constants");
    }

    private static void told(String text) throws Exception {
        for (Method m : MixRounds.class.getDeclaredMethods()) {
            hold(!Modifier.isPublic(m.getModifiers()) || shown.contains(m.getName()), "README.md shows no " + m.getName());
        }
        try (Stream<Path> tests = Files.list(TESTS)) {
            for (Path test : tests.toList()) {
                String name = test.getFileName().toString().replace(".java", "");
                hold(text.contains("`" + name + "`"), "README.md does not tell of " + name);
            }
        }
        hold(text.contains("`.ci/run`") && Files.isExecutable(Path.of(".ci/run")), "README.md: how to run the tests");
    }

    public static void main(String[] args) throws Exception {
        List<String> lines = Files.readAllLines(README);
        examples(lines);
        constants(lines);
        told(Files.readString(README));
        end("README.md says what the class answers");
    }
}
