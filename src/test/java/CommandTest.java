import java.io.File;
import java.io.IOException;
import java.nio.file.Files;
import java.nio.file.Path;
import java.util.Comparator;
import java.util.LinkedHashMap;
import java.util.List;
import java.util.Map;
import java.util.TreeSet;
import java.util.concurrent.Callable;
import java.util.concurrent.ExecutionException;
import java.util.concurrent.ExecutorService;
import java.util.concurrent.Executors;
import java.util.concurrent.Future;
import java.util.stream.Stream;

/**
 * The command that README.md names for the tests: it runs them all, and fails if one of them fails.
 * It is tried in small projects of the same form as this one, since here it would run this test again.
 */
public final class CommandTest {
    private static final String TESTS = "How to run the tests";
    private static final String PROJECT = "main/src/test/java/";
    private static final String SHARED = "shared/tests/";
    private static final String CLASS = "main/src/main/java/RuleCompletion.java";
    private static final String[] MARKS = {"FirstTest", "LastTest", "ARun", "BRun"};

    /** What the command did: its exit code, and what it printed. */
    private record Outcome(int exit, String output) {
        int count(String line) {
            return (int) output.lines().filter(line::equals).count();
        }
    }

    public static void main(String[] args) throws IOException, InterruptedException, ExecutionException {
        String command = commandOfReadme();
        testsAreWhereTheCommandLooks();
        everyTestIsNamed();
        ExecutorService pool = Executors.newFixedThreadPool(4);
        Map<String, Future<Outcome>> outcomes = new LinkedHashMap<>();
        projects().forEach((name, files) -> outcomes.put(name, pool.submit(trial(command, "main", files))));
        Future<Outcome> elsewhere = pool.submit(trial("main/" + command, "", project()));
        pool.shutdown();
        passes("all pass", outcomes.remove("all pass").get());
        passes("called from elsewhere", elsewhere.get());
        for (Map.Entry<String, Future<Outcome>> one : outcomes.entrySet()) {
            Outcome outcome = one.getValue().get();
            Checks.due(one.getKey() + ": it fails", outcome.exit() != 0, true);
            Checks.due(one.getKey() + ": the last test is run all the same",
                    outcome.count("this was LastTest"), one.getKey().startsWith("the class") ? 0 : 1);
        }
        Checks.end("CommandTest");
    }

    private static void passes(String name, Outcome outcome) {
        Checks.due(name + ": it passes", outcome.exit(), 0);
        for (String mark : MARKS) {
            Checks.due(name + ": it runs once " + mark, outcome.count("this was " + mark), 1);
        }
        Checks.due(name + ": what only serves the tests is not run", outcome.count("this was Helper"), 0);
    }

    private static String commandOfReadme() throws IOException {
        List<String> blocks = Readme.blocks(TESTS, "sh");
        Checks.due("README names one command for the tests", blocks.size(), 1);
        String command = blocks.isEmpty() ? "" : blocks.get(0).strip();
        Checks.due("it is a script that can be run: " + command,
                Files.isRegularFile(Path.of(command)) && Files.isExecutable(Path.of(command)), true);
        return command;
    }

    /** Every file that can be run as a test has the name and the place by which the command finds it. */
    private static void testsAreWhereTheCommandLooks() throws IOException {
        try (Stream<Path> files = Files.walk(Path.of("."))) {
            for (Path file : files.filter(f -> f.toString().endsWith(".java")).toList()) {
                boolean test = Files.readString(file).contains("public static void main(String");
                boolean found = file.getParent().equals(Path.of("./src/test/java")) && file.toString().endsWith("Test.java");
                Checks.due(file + " is run if it is a test", found, test);
            }
        }
    }

    private static void everyTestIsNamed() throws IOException {
        String told = Readme.section(TESTS);
        TreeSet<String> tests = new TreeSet<>();
        for (File file : Path.of("src/test/java").toFile().listFiles()) {
            if (file.getName().endsWith("Test.java")) {
                tests.add(file.getName().replace(".java", ""));
            }
        }
        TreeSet<String> named = new TreeSet<>();
        for (String word : told.split("`")) {
            if (word.matches("\\w+Test")) {
                named.add(word);
            }
        }
        Checks.due("the tests that README names", named, tests);
    }

    // ---- small projects

    /** The files of a project in which all tests pass. */
    private static Map<String, String> project() {
        Map<String, String> files = new LinkedHashMap<>();
        files.put(CLASS, "public final class RuleCompletion { }");
        files.put(PROJECT + "FirstTest.java", test("FirstTest", "Helper.tell(\"this was FirstTest\");"));
        files.put(PROJECT + "LastTest.java", test("LastTest", "Helper.tell(\"this was LastTest\");"));
        files.put(PROJECT + "Helper.java", "public class Helper {"
                + " static void tell(String words) { System.out.println(words); }"
                + " public static void main(String[] args) { tell(\"this was Helper\"); } }");
        files.put(SHARED + "ARun.java", test("ARun", "System.out.println(\"this was ARun\");"));
        files.put(SHARED + "BRun.java", test("BRun", "System.out.println(\"this was BRun\");"));
        return files;
    }

    private static String test(String name, String lines) {
        return "public class " + name + " { public static void main(String[] args) {"
                + " new RuleCompletion(); " + lines + " } }";
    }

    private static Map<String, Map<String, String>> projects() {
        Map<String, Map<String, String>> all = new LinkedHashMap<>();
        all.put("all pass", project());
        all.put("a project's test exits with 1", with(PROJECT + "FirstTest.java", test("FirstTest", "System.exit(1);")));
        all.put("a project's test throws", with(PROJECT + "FirstTest.java", test("FirstTest", "throw new AssertionError();")));
        all.put("a shared test exits with 1", with(SHARED + "ARun.java", test("ARun", "System.exit(1);")));
        all.put("the last shared test exits with 1", with(SHARED + "BRun.java", test("BRun", "System.exit(1);")));
        all.put("a shared test does not compile", with(SHARED + "ARun.java", test("ARun", "new RuleCompletion(1);")));
        Map<String, String> none = project();
        none.keySet().removeIf(file -> file.startsWith(SHARED));
        all.put("there is no shared test", none);
        all.put("the class does not compile", with(CLASS, "public final class RuleCompletion {"));
        return all;
    }

    private static Map<String, String> with(String file, String text) {
        Map<String, String> files = project();
        files.put(file, text);
        return files;
    }

    /** Makes the project in a folder of its own, and calls the command there. */
    private static Callable<Outcome> trial(String command, String where, Map<String, String> files) {
        return () -> {
            Path root = Files.createTempDirectory("command");
            for (Map.Entry<String, String> file : files.entrySet()) {
                Path path = root.resolve(file.getKey());
                Files.createDirectories(path.getParent());
                Files.writeString(path, file.getValue());
            }
            Path script = root.resolve("main/.ci/run");
            Files.createDirectories(script.getParent());
            Files.copy(Path.of(".ci/run"), script);
            script.toFile().setExecutable(true);
            Process process = new ProcessBuilder("sh", "-c", command)
                    .directory(root.resolve(where).toFile()).redirectErrorStream(true).start();
            String output = new String(process.getInputStream().readAllBytes());
            Outcome outcome = new Outcome(process.waitFor(), output);
            removeAll(root);
            return outcome;
        };
    }

    private static void removeAll(Path root) throws IOException {
        try (Stream<Path> files = Files.walk(root)) {
            for (Path file : files.sorted(Comparator.reverseOrder()).toList()) {
                Files.delete(file);
            }
        }
    }
}
