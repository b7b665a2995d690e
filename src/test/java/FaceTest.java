import java.io.IOException;
import java.lang.management.ManagementFactory;
import java.lang.reflect.Constructor;
import java.lang.reflect.Field;
import java.lang.reflect.Method;
import java.lang.reflect.Modifier;
import java.nio.file.Files;
import java.nio.file.Path;
import java.util.ArrayList;
import java.util.Arrays;
import java.util.List;
import java.util.TreeSet;
import java.util.regex.Matcher;
import java.util.regex.Pattern;

/** The public face, what of LANGUAGE.md can be seen from outside or in the source, and the room that calls take. */
public final class FaceTest {
    private static final String[] FACE = {
        "public RuleCompletion()",
        "public char RuleCompletion.draft(int)",
        "public char RuleCompletion.equationAt(int,int)",
        "public char RuleCompletion.rule(int,int)",
        "public boolean RuleCompletion.write(long)",
        "public int RuleCompletion.compare() throws java.lang.IllegalArgumentException",
        "public int RuleCompletion.complete(int) throws java.lang.IllegalArgumentException",
        "public int RuleCompletion.equation() throws java.lang.IllegalArgumentException,java.lang.IllegalStateException",
        "public int RuleCompletion.normalize() throws java.lang.IllegalArgumentException,"
                + "java.lang.UnsupportedOperationException",
        "public int RuleCompletion.rules()",
        "public int RuleCompletion.steps()",
        "public int RuleCompletion.waiting()",
        "public void RuleCompletion.clear()",
        "public void RuleCompletion.declare(char,int) throws java.lang.IllegalArgumentException,"
                + "java.lang.IllegalStateException",
        "public void RuleCompletion.wipe()",
        "public static final int RuleCompletion.ABOVE",
        "public static final int RuleCompletion.BELOW",
        "public static final int RuleCompletion.DONE",
        "public static final int RuleCompletion.FAILED",
        "public static final int RuleCompletion.FULL",
        "public static final int RuleCompletion.NEITHER",
        "public static final int RuleCompletion.RUNNING",
        "public static final int RuleCompletion.SAME",
    };
    private static final String[] NEVER = {
        "->", "::", "\\bfinally\\b", "\\bsynchronized\\b", "\\bassert\\b", "\\btry\\b", "\\bcatch\\b", "\\bThread\\b",
        "\\bRandom\\b", "currentTimeMillis", "nanoTime", "\\bMath\\.\\w*Exact\\b", "\\bLong\\.SIZE\\b", "\\bByte\\.",
        "\\bCharacter\\.", "\\bSystem\\.(?!arraycopy\\b)", "\\bArrays\\.(?!copyOf\\b|copyOfRange\\b|fill\\b)",
        "\\bimport (?!java\\.util\\.Arrays;)", "\\bstatic \\{", "\\bpackage\\b", "\\bprotected\\b", "\\bhashCode\\b",
        "\\btoString\\b", "\\binstanceof\\b", "\\bwhile \\(true\\)", "\\bfor \\(;;\\)",
    };

    public static void main(String[] args) throws IOException {
        face();
        inside();
        source(Files.readString(Path.of("src/main/java/RuleCompletion.java")));
        room();
        Checks.end("FaceTest");
    }

    private static void face() {
        Class<?> c = RuleCompletion.class;
        TreeSet<String> seen = new TreeSet<>();
        for (Constructor<?> one : c.getDeclaredConstructors()) {
            seen.add(one.toGenericString());
        }
        for (Method one : c.getDeclaredMethods()) {
            if (!Modifier.isPrivate(one.getModifiers())) {
                seen.add(one.toGenericString());
            }
        }
        for (Field one : c.getDeclaredFields()) {
            if (!Modifier.isPrivate(one.getModifiers())) {
                seen.add(one.toGenericString());
            }
        }
        Checks.due("the face", String.join("\n", seen), String.join("\n", new TreeSet<>(Arrays.asList(FACE))));
        Checks.due("the class is public and final", Modifier.toString(c.getModifiers()), "public final");
        Checks.due("it extends nothing", c.getSuperclass(), Object.class);
    }

    private static void inside() {
        Class<?>[] classes = RuleCompletion.class.getDeclaredClasses();
        Checks.due("at most twelve classes", classes.length + 1 <= 12, true);
        TreeSet<String> names = new TreeSet<>();
        for (Method one : RuleCompletion.class.getMethods()) {
            if (one.getDeclaringClass() == RuleCompletion.class) {
                names.add(one.getName());
            }
        }
        for (Class<?> one : classes) {
            int modifiers = one.getModifiers();
            Checks.due(one + " is static and not public", Modifier.isStatic(modifiers) && !Modifier.isPublic(modifiers), true);
            int fields = 0;
            for (Field field : one.getDeclaredFields()) {
                boolean constant = Modifier.isStatic(field.getModifiers());
                Checks.due(field + " is final if it is static", !constant || Modifier.isFinal(field.getModifiers()), true);
                fields += constant ? 0 : 1;
            }
            Checks.due(one + " has at most twenty fields", fields <= 20, true);
            for (Method method : one.getDeclaredMethods()) {
                Checks.due(method + " has no name of the face", names.contains(method.getName()), false);
                Checks.due(method + " has at most seven parameters", method.getParameterCount() <= 7, true);
            }
        }
    }

    private static void source(String text) {
        String bare = text.replaceAll("(?s)/\\*.*?\\*/", "").replaceAll("//[^\n]*", "").replaceAll("\"[^\"\n]*\"", "\"\"");
        for (String pattern : NEVER) {
            Matcher matcher = Pattern.compile(pattern).matcher(bare);
            Checks.due("the source has no " + pattern, matcher.find(), false);
        }
        List<String> thrown = new ArrayList<>();
        Matcher matcher = Pattern.compile("throw new (\\w+)").matcher(bare);
        while (matcher.find()) {
            thrown.add(matcher.group(1));
        }
        Checks.due("nothing is thrown but what the document says",
                List.of("IllegalArgumentException", "IllegalStateException", "UnsupportedOperationException")
                        .containsAll(thrown), true);
        int length = 0;
        int longest = 0;
        for (String line : text.split("\n")) {
            length = line.matches(" {4,8}[\\w@].*\\) ?(throws [\\w, ]+)?\\{") ? 0 : length + 1;
            if (line.matches(" {4,8}\\}")) {
                longest = Math.max(longest, length);
                length = Integer.MIN_VALUE / 2;
            }
        }
        Checks.due("methods are short", longest > 10 && longest <= 60, true);
    }

    /** The bytes that this thread has been given so far. */
    private static long allocated() {
        return ((com.sun.management.ThreadMXBean) ManagementFactory.getThreadMXBean())
                .getThreadAllocatedBytes(Thread.currentThread().getId());
    }

    private static long useOnce(RuleCompletion x, long[] texts) {
        long seen = 0;
        x.clear();
        for (long text : texts) {
            x.wipe();
            x.write(text);
            seen += x.equation() + x.compare();
        }
        for (int i = 0; i < 3; i++) {
            seen += x.complete(20);
        }
        x.wipe();
        x.write(texts[0] & 0xFFFFFFL);
        seen += x.normalize() + x.draft(0) + x.rule(0, 0) + x.equationAt(0, 0);
        return seen + x.steps() + x.rules() + x.waiting();
    }

    private static void room() {
        RuleCompletion x = Checks.with("e0f2g1");
        // fex=x, fgxx=e and ggx=x.
        long[] texts = {0x783D786566L, 0x653D78786766L, 0x783D786767L};
        long seen = useOnce(x, texts);
        allocated();
        long before = allocated();
        for (int i = 0; i < 50; i++) {
            seen += useOnce(x, texts);
        }
        long bytes = allocated() - before;
        Checks.due("calls make no objects, but " + bytes + " bytes were made", bytes < 2000 && seen > 0, true);
        before = allocated();
        RuleCompletion y = new RuleCompletion();
        bytes = allocated() - before;
        Checks.due("a new object is small, but " + bytes + " bytes were made", bytes < 60_000 && y.rules() == 0, true);
        System.out.println("a new object takes " + bytes + " bytes");
    }
}
