import java.io.IOException;
import java.lang.reflect.Array;
import java.lang.reflect.Field;
import java.lang.reflect.Method;
import java.lang.reflect.Modifier;
import java.net.URL;
import java.net.URLClassLoader;
import java.nio.file.Files;
import java.nio.file.Path;
import java.util.Collections;
import java.util.IdentityHashMap;
import java.util.List;
import java.util.Set;
import java.util.regex.Matcher;
import java.util.regex.Pattern;
import javax.tools.ToolProvider;

/**
 * What README.md says of the class: the calls of its example give the answers that stand behind them,
 * and a new object is as small as it says.
 */
public final class ReadmeTest {
    private static final String USE = "How to use it";
    private static final Pattern CHECKED = Pattern.compile("^(.+);\\s+// (answers|throws) (.+)$");
    private static final int MOST_CALLS = 512;

    public static void main(String[] args) throws ReflectiveOperationException, IOException {
        everyCallIsShown();
        exampleHolds();
        roomIsAsTold();
        Checks.end("ReadmeTest");
    }

    private static void everyCallIsShown() throws IOException {
        String code = String.join("\n", Readme.blocks(USE, "java"));
        for (Method method : RuleCompletion.class.getDeclaredMethods()) {
            if (Modifier.isPublic(method.getModifiers())) {
                Checks.due("README shows " + method.getName(), code.contains("." + method.getName() + "("), true);
            }
        }
    }

    private static void exampleHolds() throws ReflectiveOperationException, IOException {
        List<String> blocks = Readme.blocks(USE, "java");
        Path folder = Files.createTempDirectory("readme");
        Path file = folder.resolve("Example.java");
        Files.writeString(file, programOf(blocks));
        int failed = ToolProvider.getSystemJavaCompiler().run(null, null, null,
                "--release", "17", "-cp", System.getProperty("java.class.path"), "-d", folder.toString(), file.toString());
        Checks.due("README's example compiles", failed, 0);
        if (failed == 0) {
            try (URLClassLoader loader = new URLClassLoader(new URL[] {folder.toUri().toURL()})) {
                Class<?> example = loader.loadClass("Example");
                Checks.due("README's example", example.getMethod("run").invoke(null), "");
                int named = String.join("", blocks).split("// answers |// throws ").length - 1;
                Checks.due("what README names is looked at", example.getField("looks").getInt(null), named);
                Checks.due("and that is something", named > 20, true);
            }
        }
        for (String name : new String[] {"Example.class", "Example.java"}) {
            Files.deleteIfExists(folder.resolve(name));
        }
        Files.delete(folder);
    }

    /** The blocks as one class: those that begin with static are its methods, the others the lines of run(). */
    private static String programOf(List<String> blocks) {
        StringBuilder methods = new StringBuilder();
        StringBuilder lines = new StringBuilder();
        for (String block : blocks) {
            if (block.startsWith("static ")) {
                methods.append(block);
            } else {
                block.lines().forEach(line -> lines.append(checked(line)).append('\n'));
            }
        }
        return """
                public final class Example {
                    public static int looks = 0;
                    static final StringBuilder wrong = new StringBuilder();
                    static void look(String call, Object got, Object due) {
                        looks++;
                        wrong.append(got.equals(due) ? "" : call + " answered " + got + ", README has " + due + "; ");
                    }
                    static void look(String call, long got, long due) {
                        look(call, (Object) got, (Object) due);
                    }
                """ + methods + "public static String run() {\n" + lines + "return wrong.toString();\n}\n}\n";
    }

    /** A line of the example that looks at its own answer. */
    private static String checked(String line) {
        Matcher matcher = CHECKED.matcher(line);
        if (!matcher.matches()) {
            return line;
        }
        String call = matcher.group(1);
        String named = "\"" + call.replace("\"", "'") + "\"";
        if (matcher.group(2).equals("answers")) {
            return "look(" + named + ", " + call + ", " + matcher.group(3) + ");";
        }
        return "try { " + call + "; look(" + named + ", \"nothing thrown\", \"" + matcher.group(3) + "\"); }"
                + " catch (RuntimeException e) { look(" + named + ", e.getClass().getSimpleName(), \""
                + matcher.group(3) + "\"); }";
    }

    private static void roomIsAsTold() throws IllegalAccessException, IOException {
        String told = Readme.section(USE).replaceAll("\\s+", " ");
        Matcher matcher = Pattern.compile("some ([\\d,]+) objects and arrays with some ([\\d,]+) fields and elements")
                .matcher(told);
        Checks.due("README tells the room", matcher.find(), true);
        Set<Object> seen = Collections.newSetFromMap(new IdentityHashMap<>());
        long elements = countFrom(new RuleCompletion(), seen);
        near("objects", seen.size(), matcher.group(1));
        near("elements", elements, matcher.group(2));
        Checks.due("README tells the number of calls", told.contains("good for " + MOST_CALLS + " calls"), true);
    }

    private static void near(String what, long counted, String told) {
        long number = Long.parseLong(told.replace(",", ""));
        Checks.due(what + ": counted " + counted + ", README has " + number, Math.abs(counted - number) <= number / 20, true);
    }

    /** How many fields and elements this object and all that it leads to have. */
    private static long countFrom(Object object, Set<Object> seen) throws IllegalAccessException {
        if (object == null || !seen.add(object)) {
            return 0;
        }
        long count = 0;
        if (object.getClass().isArray()) {
            count = Array.getLength(object);
            for (int i = 0; i < Array.getLength(object) && object instanceof Object[] row; i++) {
                count += countFrom(row[i], seen);
            }
            return count;
        }
        for (Field field : object.getClass().getDeclaredFields()) {
            if (!Modifier.isStatic(field.getModifiers())) {
                field.setAccessible(true);
                count += 1 + (field.getType().isPrimitive() ? 0 : countFrom(field.get(object), seen));
            }
        }
        return count;
    }
}
