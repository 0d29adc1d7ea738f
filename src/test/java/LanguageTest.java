import java.io.IOException;
import java.lang.reflect.Field;
import java.lang.reflect.Method;
import java.lang.reflect.Modifier;
import java.nio.file.Files;
import java.nio.file.Path;
import java.util.ArrayList;
import java.util.List;
import java.util.Map;
import java.util.Set;
import java.util.TreeMap;
import java.util.regex.Matcher;
import java.util.regex.Pattern;

/** What of LANGUAGE.md can be seen from the words of the class and from its members; it is run in the project's folder. */
public final class LanguageTest {
    private static final Check CHECK = new Check();
    private static final Path FILE = Path.of("src/main/java/PlanValues.java");
    private static final Set<String> LIBRARY = Set.of("Arrays.fill", "System.arraycopy", "Math.max", "Math.abs", "Integer.bitCount");
    private static final int MOST_LINES = 60;
    private static final int MOST_DEEP = 8;

    public static void main(String[] args) throws IOException {
        String code = withoutComments(Files.readString(FILE));
        rule1And4Imports(code);
        rule3Types();
        rule4Library(code);
        rule5StaticFields();
        rule6Exceptions(code);
        rule9Loops(code);
        rules8And11Depth(code);
        rule11Sizes(code);
        rule13Nothing(code);
        CHECK.end("LanguageTest");
    }

    private static String withoutComments(String text) {
        return text.replaceAll("(?s)/\\*.*?\\*/", " ").replaceAll("//[^\n]*", " ");
    }

    private static List<Class<?>> classes() {
        List<Class<?>> all = new ArrayList<>(List.of(PlanValues.class.getDeclaredClasses()));
        all.add(PlanValues.class);
        return all;
    }

    private static void never(String code, String... patterns) {
        for (String pattern : patterns) {
            Matcher found = Pattern.compile(pattern).matcher(code);
            CHECK.that("no " + pattern, !found.find());
        }
    }

    private static void rule1And4Imports(String code) {
        CHECK.about("LANGUAGE.md 1, 4: one file without a package line, no library but what is listed");
        never(code, "\\bpackage\\b", "\\bprotected\\b", "\\bnative\\b");
        Matcher imports = Pattern.compile("import ([\\w.]+)").matcher(code);
        while (imports.find()) {
            CHECK.that("import of " + imports.group(1), imports.group(1).equals("java.util.Arrays"));
        }
    }

    private static void rule3Types() {
        CHECK.about("LANGUAGE.md 3: arrays of one dimension, and of two dimensions of numbers");
        for (Class<?> one : classes()) {
            for (Field f : one.getDeclaredFields()) {
                Class<?> type = f.getType();
                int dimensions = 0;
                while (type.isArray()) {
                    type = type.getComponentType();
                    dimensions++;
                }
                CHECK.that(f + " has one dimension or two of numbers", dimensions < 2 || dimensions == 2 && type.isPrimitive());
                CHECK.that(f + " is of a number or of our own", type.isPrimitive() || classes().contains(type));
            }
        }
    }

    private static void rule4Library(String code) {
        CHECK.about("LANGUAGE.md 4: the library: only what stands here");
        Matcher calls = Pattern.compile("\\b(Arrays|System|Math|Integer|Long|String|Character|Boolean|Objects)\\.(\\w+)").matcher(code);
        while (calls.find()) {
            String call = calls.group(1) + "." + calls.group(2);
            if (!code.substring(0, calls.start()).endsWith("java.util.")) {
                CHECK.that(call + " is listed", LIBRARY.contains(call));
            }
        }
        never(code, "->", "::", "\\binstanceof\\b", "\\bvar\\b", "\\bjava\\.(?!util\\.Arrays;)");
    }

    private static void rule5StaticFields() {
        CHECK.about("LANGUAGE.md 5: static fields are final constants");
        for (Class<?> one : classes()) {
            for (Field f : one.getDeclaredFields()) {
                if (Modifier.isStatic(f.getModifiers())) {
                    CHECK.that(f + " is a final number", Modifier.isFinal(f.getModifiers()) && f.getType().isPrimitive());
                }
            }
        }
    }

    private static void rule6Exceptions(String code) {
        CHECK.about("LANGUAGE.md 6: exceptions; the document asks for none");
        never(code, "\\btry\\b", "\\bcatch\\b", "\\bfinally\\b", "\\bthrows?\\b", "\\bsynchronized\\b", "\\bassert\\b");
    }

    private static void rule9Loops(String code) {
        CHECK.about("LANGUAGE.md 9: every loop has an end that can be seen from its own lines");
        never(code, "\\bwhile\\b", "\\bdo\\b");
        Matcher loops = Pattern.compile("\\bfor \\((.*)\\) \\{").matcher(code);
        int found = 0;
        while (loops.find()) {
            found++;
            String head = loops.group(1);
            CHECK.that("a counter against a bound: " + head, head.matches("int (\\w+) = [^;]+; \\1 <=? \\w+(\\.\\w+)?(\\[\\w+\\])?( [*&][^;]*)?; \\1\\+\\+"));
        }
        CHECK.due("all loops are looked at", found, code.split("\\bfor\\b", -1).length - 1);
    }

    /** Methods of one name in several classes count as one that calls all that they call, so none is missed. */
    private static void rules8And11Depth(String code) {
        CHECK.about("LANGUAGE.md 8, 11: no recursion, and calls go at most eight deep");
        Map<String, String> bodies = new TreeMap<>();
        Matcher method = Pattern.compile("(?ms)^( {4,8})(?:public|private)[^\n;={]*?(\\w+)\\([^)\n]*\\) \\{\n(.*?)^\\1\\}").matcher(code);
        while (method.find()) {
            bodies.merge(method.group(2), method.group(3), String::concat);
        }
        int declared = 0;
        for (Class<?> one : classes()) {
            for (Method m : one.getDeclaredMethods()) {
                declared++;
                CHECK.that(m + " is looked at", bodies.containsKey(m.getName()));
            }
        }
        CHECK.that("there are methods", declared > 0);
        for (String name : bodies.keySet()) {
            CHECK.that(name + " goes at most eight deep", isWithin(name, MOST_DEEP, bodies));
        }
    }

    private static boolean isWithin(String name, int deep, Map<String, String> bodies) {
        if (deep == 0) {
            return false;
        }
        Matcher call = Pattern.compile("\\b(\\w+)\\(").matcher(bodies.get(name));
        while (call.find()) {
            if (bodies.containsKey(call.group(1)) && !isWithin(call.group(1), deep - 1, bodies)) {
                return false;
            }
        }
        return true;
    }

    private static void rule11Sizes(String code) {
        CHECK.about("LANGUAGE.md 11: sizes");
        CHECK.that("some twelve classes at most", classes().size() <= 12);
        for (Class<?> one : classes()) {
            int fields = 0;
            for (Field f : one.getDeclaredFields()) {
                fields += Modifier.isStatic(f.getModifiers()) ? 0 : 1;
            }
            CHECK.that(one + " has some twenty fields at most", fields <= 20);
            for (Method m : one.getDeclaredMethods()) {
                CHECK.that(m + " takes seven parameters at most", m.getParameterCount() <= 7);
            }
        }
        int start = 0;
        String[] lines = code.split("\n");
        for (int line = 0; line < lines.length; line++) {
            if (lines[line].matches(" {4,8}(public|private).*\\) \\{")) {
                start = line;
            }
            if (lines[line].matches(" {4,8}\\}")) {
                CHECK.that("short: " + lines[start].trim(), line - start <= MOST_LINES);
            }
        }
    }

    private static void rule13Nothing(String code) {
        CHECK.about("LANGUAGE.md 13: no clock, no randomness, no file, network, thread or environment; 12: objects");
        never(code, "\\bRandom\\b", "\\bThread\\b", "\\bFile\\b", "nanoTime", "currentTime", "getenv");
        Matcher made = Pattern.compile("(\\S+) = new\\b").matcher(code);
        int found = 0;
        while (made.find()) {
            found++;
        }
        CHECK.due("every new stands at a field", code.split("\\bnew\\b", -1).length - 1, found);
        CHECK.that("and fields are final", !Pattern.compile("(?m)^(?!.*private final ).*\\bnew\\b").matcher(code).find());
    }
}
