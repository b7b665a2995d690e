import java.util.Map;
import java.util.Random;
import java.util.TreeMap;

/**
 * Many runs of calls, always the same ones, on the class and on PlainModel side by side: after each
 * call all that can be seen of the one has to be as it is on the other. At the end every cause that
 * the model counts has to have been met, so that no part of the document goes untried by accident.
 * Looking at all of it takes more than the 512 calls for which the document promises anything; the
 * class is written to answer on all the same, and the other tests keep to that number.
 */
public final class ModelTest {
    private static final int RUNS = 6000;
    private static final String[] CAUSES = {
        "a variable would come in its own term", "failed", "just forty rewritings", "more than forty rewritings",
        "there already", "there exchanged", "rule taken away", "right side of a rule rewritten",
        "full: step, left side out of bounds", "full: step, right side out of bounds", "full: step, 14 rules",
        "full: right side of a rule out of bounds", "full: kept, left side out of bounds",
        "full: kept, right side out of bounds", "full: kept, 48 waiting",
        "full: pair, left side out of bounds", "full: pair, right side out of bounds",
        "full: pair, more than six variables", "full: pair, 48 waiting",
    };
    private static final String[][] THEORIES = {
        {"e0g1f2", "feu=u", "fgxx=e", "ffxyz=fxfyz"},
        {"f2e0g1", "feu=u", "fgxx=e", "ffxyz=fxfyz"},
        {"a0b1c1", "bbx=x", "ccx=x", "bcbx=cbcx"},
        {"a0b1c1", "bbbx=x", "cccx=x", "bcbcx=x"},
        {"a0b1c1d1", "bcx=x", "cbx=x", "bdx=dbx", "ddx=x"},
        {"a0h1f2", "fax=x", "fhxy=hfxy", "hhx=x"},
        {"f2a0", "ffxyfyz=y"},
        {"f2", "ffxyz=fxfyz", "fxx=x"},
        {"b2c1", "bxx=x", "bbxyz=bxbyz", "cbxy=bcycx"},
        {"a0c1b2", "bxa=x", "bxcy=cbxy", "bbxyz=bxbyz"},
        {"a0c1b2d2", "bxa=x", "bxcy=cbxy", "dxa=a", "dxcy=bdxyx"},
        // Each variable stands for a term in which the next one comes twice.
        {"a0b2c2", "cucvcvcwcwcxcxy=u", "cbuucucbvvcvcbwwcwcbxxx=x"},
        {"a0b2c2", "cucvcvcwcwcxcxy=y", "cbuucucbvvcvcbwwcwcbxxx=a"},
        {"a0b2d1c2", "dcucvcvcwcwx=x", "dcbuucucbvvcvcbwww=w"},
        {"a0b2d1c2", "dcucvcvcwcwx=u", "dcbuucucbvvcvcbwww=a"},
    };

    private final Random random;
    private final PlainModel model;
    private final RuleCompletion program = new RuleCompletion();
    private final StringBuilder calls = new StringBuilder();
    private String letters = "";
    private final int[] places = new int[128];
    private boolean wrong = false;

    private ModelTest(long seed, Map<String, Integer> causes) {
        random = new Random(seed);
        model = new PlainModel(causes);
    }

    /** One call on either side: an answer, or an exception that is turned into one. */
    private interface Call {
        long answer();
    }

    private static String answerOf(Call call) {
        try {
            return String.valueOf(call.answer());
        } catch (RuntimeException e) {
            return e.getClass().getSimpleName();
        }
    }

    private void both(String name, Call onProgram, Call onModel) {
        calls.append(name).append('\n');
        same(name, answerOf(onProgram), answerOf(onModel));
    }

    private void same(String what, String got, String due) {
        if (!got.equals(due) && !wrong) {
            wrong = true;
            System.out.println(calls + what + " answered " + got + ", due is " + due);
        }
    }

    private void compareAll() {
        same("steps", "" + program.steps(), "" + model.steps());
        same("rules", "" + program.rules(), "" + model.rules());
        same("waiting", "" + program.waiting(), "" + model.waiting());
        for (int k = -1; k <= model.rules(); k++) {
            StringBuilder got = new StringBuilder();
            StringBuilder due = new StringBuilder();
            for (int i = -1; i <= 51; i++) {
                got.append(program.rule(k, i));
                due.append(model.rule(k, i));
            }
            same("rule " + k, got.toString(), due.toString());
        }
        for (int k = -1; k <= model.waiting(); k++) {
            StringBuilder got = new StringBuilder();
            StringBuilder due = new StringBuilder();
            for (int i = -1; i <= 51; i++) {
                got.append(program.equationAt(k, i));
                due.append(model.equationAt(k, i));
            }
            same("equation " + k, got.toString(), due.toString());
        }
        for (int i = -1; i <= 61; i++) {
            same("draft(" + i + ")", "" + (int) program.draft(i), "" + (int) model.draft(i));
        }
    }

    // ---- calls

    private void declare(char letter, int count) {
        both("declare " + letter + " " + count, () -> {
            program.declare(letter, count);
            return 0;
        }, () -> {
            model.declare(letter, count);
            return 0;
        });
        if (letter >= 'a' && letter <= 'h' && count >= 0 && count <= 2 && letters.indexOf(letter) < 0) {
            letters += letter;
            places[letter] = count;
        }
    }

    private void writeText(String text) {
        program.wipe();
        model.wipe();
        calls.append("text ").append(text).append('\n');
        for (int i = 0; i < text.length(); i += 8) {
            long packed = 0;
            for (int j = 0; j < 8 && i + j < text.length(); j++) {
                packed |= (text.charAt(i + j) & 255L) << (8 * j);
            }
            long characters = packed;
            both("write " + characters, () -> program.write(characters) ? 1 : 0, () -> model.write(characters) ? 1 : 0);
        }
    }

    private void equation(String text) {
        writeText(text);
        both("equation", program::equation, model::equation);
    }

    private void compare(String text) {
        writeText(text);
        both("compare", program::compare, model::compare);
    }

    private void normalize(String text) {
        writeText(text);
        both("normalize", program::normalize, model::normalize);
    }

    private void complete(int count) {
        both("complete " + count, () -> program.complete(count), () -> model.complete(count));
    }

    private void clear() {
        calls.append("clear\n");
        program.clear();
        model.clear();
    }

    // ---- random things

    private char pick(String text) {
        return text.charAt(random.nextInt(text.length()));
    }

    private String withPlaces(int least) {
        StringBuilder found = new StringBuilder();
        for (char c : letters.toCharArray()) {
            if (places[c] >= least && (least > 0 || places[c] == 0)) {
                found.append(c);
            }
        }
        return found.toString();
    }

    /** A term with about so many letters. */
    private String term(int size, String variables) {
        String constants = withPlaces(0);
        String others = withPlaces(1);
        if (size <= 1 || others.isEmpty()) {
            boolean variable = constants.isEmpty() || !variables.isEmpty() && random.nextInt(3) > 0;
            return String.valueOf(variable ? pick(variables.isEmpty() ? "x" : variables) : pick(constants));
        }
        char c = pick(others);
        if (places[c] == 1) {
            return c + term(size - 1, variables);
        }
        int first = 1 + random.nextInt(Math.max(1, size - 2));
        return c + term(first, variables) + term(size - 1 - first, variables);
    }

    private String variables() {
        String[] sets = {"", "x", "xy", "xyz", "uvwxyz", "zwu", "yx"};
        return sets[random.nextInt(sets.length)];
    }

    private String pairText(int most) {
        String variables = variables();
        String left = term(1 + random.nextInt(most), variables);
        String right = random.nextInt(8) == 0 ? left : term(1 + random.nextInt(most), variables);
        return left + "=" + right;
    }

    /** Two terms of which the right one has no variables but those of the left one, so that few steps fail. */
    private String turnableText(int most) {
        String left = term(2 + random.nextInt(most), variables());
        String right = term(1 + random.nextInt(most), left.replaceAll("[a-h]", ""));
        return random.nextInt(4) == 0 ? right + "=" + left : left + "=" + right;
    }

    private void declareSome() {
        int count = 2 + random.nextInt(4);
        for (int i = 0; i < count; i++) {
            declare(pick("abcdefgh"), random.nextInt(3));
        }
    }

    private void wrongInput() {
        String[] texts = {"", "=", "x=", "=x", "x=y=z", "x", "xx=y", "x=yy", "t=x", "x={", "A=x", "\u00ffx=x", "x y", "f", "ab=ba"};
        equation(texts[random.nextInt(texts.length)]);
        compare(texts[random.nextInt(texts.length)]);
        normalize(texts[random.nextInt(texts.length)]);
        complete(random.nextBoolean() ? -1 - random.nextInt(3) : 21 + random.nextInt(3));
        declare((char) ('`' + random.nextInt(11)), random.nextInt(6) - 2);
        long characters = random.nextLong() & (random.nextBoolean() ? -1L : 0x00FF00FFFF00FF00L);
        both("write " + characters, () -> program.write(characters) ? 1 : 0, () -> model.write(characters) ? 1 : 0);
    }

    // ---- kinds of runs

    private void enterTheory() {
        String[] theory = THEORIES[random.nextInt(THEORIES.length)];
        for (int i = 0; i < theory[0].length(); i += 2) {
            declare(theory[0].charAt(i), theory[0].charAt(i + 1) - '0');
        }
        for (int i = 1; i < theory.length; i++) {
            if (random.nextInt(10) > 0) {
                String[] sides = theory[i].split("=");
                equation(random.nextInt(4) == 0 ? sides[1] + "=" + sides[0] : theory[i]);
            }
        }
    }

    private void enterRandom() {
        declareSome();
        int count = 1 + random.nextInt(6);
        int most = 2 + random.nextInt(random.nextInt(4) == 0 ? 24 : 8);
        boolean turnable = random.nextInt(4) > 0;
        for (int i = 0; i < count; i++) {
            equation(turnable ? turnableText(most) : pairText(most));
        }
    }

    /** Constants that become long terms, and terms that have them many times: sides get out of bounds. */
    private void enterGrowing() {
        String order = "abdcefgh";
        for (int i = 0; i < 8; i++) {
            declare(order.charAt(i), i == 1 ? 2 : i == 3 ? 1 : 0);
        }
        String[] manyTimes = {"cd=bdd", "e=bdbdbdd", "f=bdd", "ce=bbeee", "bde=bdd", "g=bcdcd", "bff=d", "ccd=bdbdd"};
        String[] growing = {"d=", "e=", "f="};
        int count = 2 + random.nextInt(4);
        for (int i = 0; i < count; i++) {
            equation(manyTimes[random.nextInt(manyTimes.length)]);
        }
        String all = letters;
        letters = "ab";
        for (int i = 0; i < 2; i++) {
            equation(growing[random.nextInt(growing.length)] + term(1 + random.nextInt(23), ""));
        }
        letters = all;
    }

    /** Many equations at once, so that rules and waiting equations come to their limits. */
    private void enterMany() {
        declareSome();
        int count = 30 + random.nextInt(25);
        int most = 3 + random.nextInt(6);
        for (int i = 0; i < count; i++) {
            equation(turnableText(most));
        }
    }

    /** Terms without variables, as many as can wait, and then short ones that take rules away. */
    private void enterGround() {
        String order = "abcdefgh";
        for (int i = 0; i < 8; i++) {
            declare(order.charAt(i), i < 2 ? 0 : 1);
        }
        for (int round = 0; round < 3; round++) {
            for (int i = 0; i < 49; i++) {
                equation(term(5 + random.nextInt(6), "") + "=" + term(5 + random.nextInt(6), ""));
            }
            complete(1 + random.nextInt(4));
            equation(term(2, "") + "=" + term(2, ""));
        }
    }

    /** Terms in which many variables come. */
    private void enterWide() {
        declare('f', 2);
        declare('a', random.nextInt(2));
        int count = 1 + random.nextInt(3);
        for (int i = 0; i < count; i++) {
            String names = "uvwxyz";
            String left = term(5 + random.nextInt(8), names);
            for (int j = 0; j < left.length(); j++) {
                if (left.charAt(j) >= 'u' && random.nextInt(4) > 0) {
                    left = left.substring(0, j) + names.charAt(j % 6) + left.substring(j + 1);
                }
            }
            equation(left + "=" + term(1 + random.nextInt(5), left.replaceAll("[a-h]", "")));
        }
    }

    /** Symbols that are pushed past one another: long rewritings. */
    private void enterLong() {
        declare('a', 0);
        declare('c', 1);
        declare('b', 2);
        declare('d', 1);
        String[] all = {"dcx=ccdx", "da=a", "bxcy=cbxy", "bcxy=bxcy", "bax=x", "bxa=x", "dcx=cdx", "cdx=dx"};
        int count = 1 + random.nextInt(3);
        for (int i = 0; i < count; i++) {
            equation(all[random.nextInt(all.length)]);
        }
        complete(20);
        for (int i = 0; i < 6; i++) {
            int one = 3 + random.nextInt(6);
            int other = random.nextInt(3) + 40 / one;
            normalize("d".repeat(one) + "c".repeat(other) + "a");
            normalize("b" + "c".repeat(random.nextInt(12)) + "a" + "c".repeat(random.nextInt(12)) + "a");
        }
    }

    private void run() {
        switch (random.nextInt(12)) {
            case 0: enterTheory(); break;
            case 1: enterGrowing(); break;
            case 2: enterMany(); break;
            case 3: enterLong(); break;
            case 4: enterGround(); break;
            case 5: case 6: enterWide(); break;
            default: enterRandom(); break;
        }
        for (int i = 0; i < 12 && !wrong; i++) {
            doSomething();
            compareAll();
        }
    }

    private void doSomething() {
        switch (random.nextInt(9)) {
            case 0: complete(20); break;
            case 1: case 2: complete(random.nextInt(4)); break;
            case 3: normalize(term(1 + random.nextInt(24), variables())); break;
            case 4: case 5: compare(pairText(1 + random.nextInt(24))); break;
            case 6: equation(pairText(6)); break;
            case 7: if (random.nextInt(3) == 0) { wrongInput(); } break;
            default:
                if (random.nextInt(8) == 0) {
                    clear();
                    equation(pairText(6));
                } else {
                    complete(5);
                }
        }
    }

    public static void main(String[] args) {
        Map<String, Integer> causes = new TreeMap<>();
        int failures = 0;
        int runs = args.length > 0 ? Integer.parseInt(args[0]) : RUNS;
        for (int i = 0; i < runs && failures < 3; i++) {
            ModelTest test = new ModelTest(i, causes);
            test.run();
            if (test.wrong) {
                failures++;
                System.out.println("in run " + i);
            }
        }
        for (String cause : CAUSES) {
            if (!causes.containsKey(cause)) {
                failures++;
                System.out.println("no run met: " + cause);
            }
        }
        if (args.length > 0) {
            System.out.println(causes);
        }
        if (failures > 0) {
            System.exit(1);
        }
    }
}
