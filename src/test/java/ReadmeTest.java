import java.io.IOException;
import java.lang.reflect.InvocationTargetException;
import java.lang.reflect.Method;
import java.lang.reflect.Modifier;
import java.nio.file.Files;
import java.nio.file.Path;
import java.util.HashMap;
import java.util.List;
import java.util.Map;
import java.util.Set;
import java.util.TreeMap;
import java.util.TreeSet;
import java.util.regex.Matcher;
import java.util.regex.Pattern;
import java.util.stream.Collectors;
import java.util.stream.Stream;

/** README.md agrees with the class and the project as they stand; it is run in the project's folder. */
public final class ReadmeTest {
    private static final Check CHECK = new Check();
    private static final Path FILE = Path.of("README.md");
    private static final Path TESTS = Path.of("src/test/java");
    private static final Pattern STATEMENT = Pattern.compile("(?:int (\\w+) = )?x\\.(\\w+)\\((.*?)\\); +// (-?\\d+)\\b.*");
    private static final Pattern ROW = Pattern.compile("(?m)^\\| `(\\w+) (\\w+)\\((.*?)\\)` \\| .* \\| ?(.*?) ?\\|$");
    /** Every call is refused in each of its ways by some of these, and taken by others. */
    private static final int[] TRIED = {-1, 0, 1, 2, 3, 5, 6, 7, 51};

    public static void main(String[] args) throws IOException, ReflectiveOperationException {
        String text = Files.readString(FILE);
        example(text);
        calls(text);
        tests(text);
        CHECK.end("ReadmeTest");
    }

    private static void example(String text) throws ReflectiveOperationException {
        CHECK.about("README.md, the example");
        Matcher block = Pattern.compile("(?s)```java\n(.*?)```").matcher(text);
        CHECK.that("there is one", block.find());
        List<String> lines = block.group(1).lines().collect(Collectors.toList());
        CHECK.that("it begins with a new object", lines.get(0).equals("PlanValues x = new PlanValues();"));
        PlanValues x = new PlanValues();
        Map<String, Object> named = new HashMap<>(Map.of("true", true, "false", false));
        for (String line : lines.subList(1, lines.size())) {
            Matcher call = STATEMENT.matcher(line);
            boolean read = call.matches();
            CHECK.that("a call with its answer: " + line, read);
            if (read) {
                long got = answer(x, method(call.group(2)), arguments(call.group(3), named));
                CHECK.due(line, got, Long.parseLong(call.group(4)));
                if (call.group(1) != null) {
                    named.put(call.group(1), (int) got);
                }
            }
        }
    }

    private static Method method(String name) throws NoSuchMethodException {
        for (Method m : PlanValues.class.getMethods()) {
            if (m.getName().equals(name)) {
                return m;
            }
        }
        throw new NoSuchMethodException(name);
    }

    private static Object[] arguments(String list, Map<String, Object> named) {
        return list.isEmpty() ? new Object[0] : Stream.of(list.split(", "))
                .map(one -> named.containsKey(one) ? named.get(one) : Integer.valueOf(one)).toArray();
    }

    private static long answer(PlanValues x, Method m, Object[] arguments) throws IllegalAccessException, InvocationTargetException {
        Object got = m.invoke(x, arguments);
        return got == null ? 0 : ((Number) got).longValue();
    }

    private static void calls(String text) throws ReflectiveOperationException {
        CHECK.about("README.md, the calls");
        Map<String, String> written = new TreeMap<>();
        Matcher row = ROW.matcher(text);
        while (row.find()) {
            String types = row.group(3).replaceAll("(\\w+) \\w+", "$1").replace(", ", ",");
            written.put(row.group(1) + " " + row.group(2) + "(" + types + ")", row.group(4));
        }
        Set<String> face = new TreeSet<>();
        for (Method m : PlanValues.class.getDeclaredMethods()) {
            if (Modifier.isPublic(m.getModifiers())) {
                String call = Stream.of(m.getParameterTypes()).map(Class::getName)
                        .collect(Collectors.joining(",", m.getReturnType() + " " + m.getName() + "(", ")"));
                face.add(call);
                CHECK.that("codes of " + call, codesWritten(written.getOrDefault(call, "")).equals(codesSeen(m)));
            }
        }
        CHECK.that("they are all there, and no others: " + written.keySet(), written.keySet().equals(face));
    }

    private static Set<Long> codesWritten(String column) {
        Set<Long> codes = new TreeSet<>();
        Matcher code = Pattern.compile("-\\d+").matcher(column);
        while (code.find()) {
            codes.add(Long.valueOf(code.group()));
        }
        return codes;
    }

    /** What of the codes the call answers on three objects, to all that is tried; only upper goes below 0 by itself. */
    private static Set<Long> codesSeen(Method m) throws ReflectiveOperationException {
        Set<Long> codes = new TreeSet<>();
        int ways = (int) Math.pow(TRIED.length, m.getParameterCount());
        for (int way = 0; way < ways && !m.getName().equals("upper"); way++) {
            for (PlanValues x : List.of(Examples.empty(), Examples.some(), Examples.full())) {
                long got = answer(x, m, tried(m, way));
                if (got < 0) {
                    codes.add(got);
                }
            }
        }
        return codes;
    }

    private static Object[] tried(Method m, int way) {
        Object[] arguments = new Object[m.getParameterCount()];
        int rest = way;
        for (int i = 0; i < arguments.length; i++) {
            int one = TRIED[rest % TRIED.length];
            arguments[i] = m.getParameterTypes()[i] == boolean.class ? (Object) (one > 0) : (Object) one;
            rest /= TRIED.length;
        }
        return arguments;
    }

    private static void tests(String text) throws IOException {
        CHECK.about("README.md, the tests");
        Set<String> files;
        try (Stream<Path> all = Files.list(TESTS)) {
            files = all.map(one -> one.getFileName().toString()).filter(one -> one.endsWith(".java"))
                    .map(one -> one.substring(0, one.length() - 5)).collect(Collectors.toCollection(TreeSet::new));
        }
        for (String file : files) {
            CHECK.that(file + " is told of", text.contains("`" + file + "`"));
        }
        Matcher listed = Pattern.compile("(?m)^- `(\\w+)`: ").matcher(text);
        while (listed.find()) {
            CHECK.that(listed.group(1) + " is there", files.contains(listed.group(1)));
        }
    }
}
