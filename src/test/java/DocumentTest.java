import java.util.ArrayList;
import java.util.List;
import java.util.Random;

/**
 * The sentences of the document that name no boundary, from its first line on: what completion is for,
 * what is true of rules and equations at any time, and that a call changes nothing but what is said of
 * it. The sentences are quoted as in the other tests.
 */
public final class DocumentTest {
    private static final int RUNNING = 0;
    private static final int DONE = 1;
    private static final int FAILED = 2;
    private static final int FULL = 3;
    private static final int ABOVE = 1;

    private static final String[] GROUP = {"e0f2g1", "fex=x", "fgxx=e", "ffxyz=fxfyz"};
    private static final String[] ENDLESS = {"a0c1d1", "dcdx=cdx"};
    private static final String[][] THEORIES = {
        GROUP, ENDLESS,
        {"f2e0g1", "fex=x", "fgxx=e", "ffxyz=fxfyz"},
        {"a0b1c1", "bbx=x", "ccx=x", "bcbx=cbcx"},
        {"a0b1c1", "bbbx=x", "x=cccx", "bcbcx=x"},
        {"f2a0", "ffxyfyz=y"},
        {"a0c1b2", "bxa=x", "bxcy=cbxy", "bbxyz=bxbyz"},
        {"a0c1b2d2", "bxa=x", "bxcy=cbxy", "dxa=a", "dxcy=bdxyx"},
        {"a0b1c1d1", "cbdx=dbx", "bbcx=cx", "dcx=bx"},
    };

    public static void main(String[] args) {
        nothingIsLeft();
        cannotBeTurned();
        noRoom();
        wordsOfAGroup();
        rulesThatThereAre();
        constants();
        textOfATerm();
        subtermsBegin();
        pairHasALeftAndARightTerm();
        rulesAtAnyTime();
        equationsAtAnyTime();
        newRule();
        namesDoNotMatter();
        declaresByLetter();
        answersChangeNothing();
        refusalsChangeNothing();
        nothingElseChanges();
        objectsAreApart();
        Checks.end("DocumentTest");
    }

    /** An object of these symbols for which these equations are waiting. */
    private static Run begun(String[] theory) {
        Run x = new Run(theory[0]);
        for (int i = 1; i < theory.length; i++) {
            Checks.due("equation " + theory[i], x.equation(theory[i]), i);
        }
        return x;
    }

    // ---- what it is

    private static void nothingIsLeft() {
        Checks.sentence("equations are turned into rules by a path order, rules are overlapped, what comes of that becomes"
                + " equations again, until nothing is left");
        Run x = begun(GROUP);
        Checks.due("20 steps", x.complete(20), RUNNING);
        Checks.due("20 more at most", x.complete(20), DONE);
        Checks.due("the ten rules of a group", x.all(), "DONE 31: feu>u fguu>e ffuvw>fufvw fgufuv>v ge>e ggu>u fue>u fugu>e"
                + " fufguv>v gfuv>fgvgu; ");
    }

    private static void cannotBeTurned() {
        Checks.sentence("or an equation can't be turned");
        Run x = begun(GROUP);
        Checks.due("it commutes", x.equation("fxy=fyx"), 4);
        Checks.due("until that one has its turn", x.complete(20), FAILED);
        Checks.due("two were shorter", x.all(), "FAILED 3: feu>u fguu>e; ffuvw=fufvw");
    }

    private static void noRoom() {
        Checks.sentence("or there is no room");
        Run x = begun(ENDLESS);
        Checks.due("every step makes new ones", x.complete(10), RUNNING);
        Checks.due("ten rules, and as many equations", x.ruleCount() + " " + x.waitingCount(), "10 10");
        Checks.due("until they are too long", x.complete(10), FULL);
        Checks.due("in the next step", x.steps(), 11);
    }

    /** Two terms are the same in every group just if their words are: the normal form is told by the word. */
    private static void wordsOfAGroup() {
        Checks.sentence("terms are brought to their normal forms by the rules that there are");
        Random random = new Random(1);
        for (int n = 0; n < 40; n++) {
            Run x = begun(GROUP);
            x.complete(20);
            Checks.due("the rules are complete", x.complete(20), DONE);
            for (int i = 0; i < 8; i++) {
                String term = groupTerm(random, 1 + random.nextInt(15));
                String seen = x.normalize(term);
                Checks.due("the normal form of " + term, seen.substring(seen.indexOf(' ') + 1), termOf(wordOf(term)));
            }
        }
    }

    private static String groupTerm(Random random, int size) {
        if (size <= 1) {
            return String.valueOf("exyz".charAt(random.nextInt(4)));
        }
        if (size == 2 || random.nextInt(3) == 0) {
            return "g" + groupTerm(random, size - 1);
        }
        int first = 1 + random.nextInt(size - 2);
        return "f" + groupTerm(random, first) + groupTerm(random, size - 1 - first);
    }

    /** The word of a term, in which X is the inverse of x; x and X beside one another are gone. */
    private static String wordOf(String term) {
        List<String> stack = new ArrayList<>();
        for (int i = term.length() - 1; i >= 0; i--) {
            char c = term.charAt(i);
            if (c == 'f') {
                String first = stack.remove(stack.size() - 1);
                stack.add(reduced(first + stack.remove(stack.size() - 1)));
            } else if (c == 'g') {
                stack.add(inverse(stack.remove(stack.size() - 1)));
            } else {
                stack.add(c == 'e' ? "" : String.valueOf(c));
            }
        }
        return stack.get(0);
    }

    private static char inverse(char c) {
        return Character.isUpperCase(c) ? Character.toLowerCase(c) : Character.toUpperCase(c);
    }

    private static String inverse(String word) {
        StringBuilder backwards = new StringBuilder();
        for (char c : word.toCharArray()) {
            backwards.insert(0, inverse(c));
        }
        return backwards.toString();
    }

    private static String reduced(String word) {
        StringBuilder kept = new StringBuilder();
        for (char c : word.toCharArray()) {
            int last = kept.length() - 1;
            if (last >= 0 && kept.charAt(last) == inverse(c)) {
                kept.setLength(last);
            } else {
                kept.append(c);
            }
        }
        return kept.toString();
    }

    /** The product of the letters of a word, put together from the right. */
    private static String termOf(String word) {
        StringBuilder term = new StringBuilder(word.isEmpty() ? "e" : "");
        for (int i = 0; i < word.length(); i++) {
            char c = word.charAt(i);
            term.append(i < word.length() - 1 ? "f" : "").append(Character.isUpperCase(c) ? "g" : "")
                    .append(Character.toLowerCase(c));
        }
        return term.toString();
    }

    private static void rulesThatThereAre() {
        Checks.sentence("by the rules that there are");
        Run x = new Run("a0c0b1d1f2");
        Checks.due("none", x.normalize("bda"), "0 bda");
        Checks.due("a waiting equation is no rule", x.equation("bx=x"), 1);
        Checks.due("still none", x.normalize("bda"), "0 bda");
        x.complete(1);
        Checks.due("one", x.normalize("bda"), "1 da");
        x.ruleByRule("dx=bx");
        Checks.due("two", x.normalize("bda"), "2 a");
        x.ruleByRule("fxy=fyx");
        Checks.due("when it is FAILED too", x.state() + " " + x.normalize("bda"), "FAILED 2 a");
        x.clear();
        Checks.due("none behind clear", x.normalize("bda"), "0 bda");
        Run y = begun(ENDLESS);
        y.complete(20);
        Checks.due("when it is FULL too", y.state() + " " + y.normalize("ddcda"), "FULL 2 cda");
    }

    // ---- the public face

    private static void constants() {
        Checks.sentence("public static final int RUNNING = 0, DONE = 1, FAILED = 2, FULL = 3;");
        Checks.due("RUNNING", RuleCompletion.RUNNING, 0);
        Checks.due("DONE", RuleCompletion.DONE, 1);
        Checks.due("FAILED", RuleCompletion.FAILED, 2);
        Checks.due("FULL", RuleCompletion.FULL, 3);
        Checks.sentence("`BELOW = -1, SAME = 0, ABOVE = 1, NEITHER = 2`: Answers of compare.");
        Checks.due("BELOW", RuleCompletion.BELOW, -1);
        Checks.due("SAME", RuleCompletion.SAME, 0);
        Checks.due("ABOVE", RuleCompletion.ABOVE, 1);
        Checks.due("NEITHER", RuleCompletion.NEITHER, 2);
    }

    // ---- terms

    private static void textOfATerm() {
        Checks.sentence("its TEXT is the letter of the variable, or the symbol's letter and behind it the texts of its terms."
                + " Its SIZE is how many letters its text has.");
        Run x = new Run("a0b1f2");
        String[] texts = {"u=u", "a=u", "bu=a", "fua=bu", "fbufva=bfuv", "ffuvfvu=bbbu"};
        for (int k = 0; k < texts.length; k++) {
            Checks.due("equation " + texts[k], x.equation(texts[k]), k + 1);
            Checks.due("its text", x.equationAt(k), texts[k]);
            Checks.due("and no more letters", x.equationAt(k, texts[k].length()), 0);
        }
    }

    private static void subtermsBegin() {
        Checks.sentence("The subterms of a term BEGIN at the letters of its text, numbered from 0.");
        String term = "fbafac";
        String[] subterms = {"fbafac", "ba", "a", "fac", "a", "c"};
        String[] due = {"1 h", "1 fhfac", "2 fbhfhc", "1 fbah", "2 fbhfhc", "1 fbafah"};
        for (int i = 0; i < subterms.length; i++) {
            Run x = new Run("h0a0c0b1f2");
            x.ruleByRule(subterms[i] + "=h");
            Checks.due("it is replaced where it begins, at " + i, x.normalize(term), due[i]);
        }
    }

    private static void pairHasALeftAndARightTerm() {
        Checks.sentence("A PAIR is two terms, a left one and a right one");
        Run x = new Run("a0b1");
        Checks.due("the left one is above", x.equation("bx=a"), 1);
        Checks.due("the right one is above", x.equation("a=bx"), 2);
        Checks.due("either stays where it is", x.waiting(), "bu=a a=bu");
    }

    /** Whether the variables first come in the order u, v, w, .. . */
    private static boolean isRenamed(String text) {
        char next = 'u';
        for (char c : text.toCharArray()) {
            if (c > next && c <= 'z') {
                return false;
            }
            next += c == next ? 1 : 0;
        }
        return true;
    }

    /** A new object on which so many steps were made: to look at all of it takes more calls than one has. */
    private static Run stepped(String[] theory, int steps) {
        Run x = begun(theory);
        x.complete(steps);
        return x;
    }

    private static void rulesAtAnyTime() {
        Checks.sentence("A RULE is a renamed pair; its left side is above its right side. Rules are numbered 0, 1, .. .");
        for (String[] theory : THEORIES) {
            for (int steps = 1; steps <= 20; steps++) {
                Run x = stepped(theory, steps);
                int count = x.ruleCount();
                Checks.due("at most 14 rules", count <= 14, true);
                for (int k = 0; k < count; k++) {
                    String rule = stepped(theory, steps).rule(k);
                    Checks.due("renamed: " + rule, isRenamed(rule), true);
                    Checks.due("above: " + rule, new Run(theory[0]).compare(rule.replace('>', '=')), ABOVE);
                }
                Checks.due("none behind the last number", x.rule(count, 0), 0);
            }
        }
    }

    private static void equationsAtAnyTime() {
        Checks.sentence("WAITING are at most 48 equations, renamed pairs");
        for (String[] theory : THEORIES) {
            for (int steps = 1; steps <= 20; steps += 3) {
                Run x = stepped(theory, steps);
                int count = x.waitingCount();
                Checks.due("at most 48 equations", count <= 48, true);
                for (int k = 0; k < count; k++) {
                    String equation = stepped(theory, steps).equationAt(k);
                    Checks.due("renamed: " + equation, isRenamed(equation), true);
                    Checks.due("two terms: " + equation, new Run(theory[0]).compare(equation) instanceof Integer, true);
                }
                Checks.due("none behind the last one", x.equationAt(count, 0), 0);
            }
        }
    }

    private static void newRule() {
        Checks.sentence("Else the one that is above is the left side, the other one the right side of a pair, which is renamed:"
                + " the NEW rule.");
        String[][] due = {
            {"ba=a", "ba>a"}, {"a=ba", "ba>a"}, {"fxy=bx", "fuv>bu"}, {"bx=fyx", "fuv>bv"}, {"bx=fxy", "fuv>bu"},
            {"bbz=bz", "bbu>bu"}, {"fyx=ffxyx", "ffuvu>fvu"},
        };
        for (String[] one : due) {
            Run x = new Run("a0b1f2");
            Checks.due("equation " + one[0], x.equation(one[0]), 1);
            x.complete(1);
            Checks.due("the rule of " + one[0], x.rule(0), one[1]);
        }
    }

    private static void namesDoNotMatter() {
        Checks.sentence("(Whichever names are left for variables does not matter.)");
        for (String[] theory : THEORIES) {
            String[] other = theory.clone();
            for (int i = 1; i < other.length; i++) {
                other[i] = theory[i].replace('x', 'u').replace('z', 'x').replace('y', 'z');
            }
            for (int steps = 1; steps <= 4; steps++) {
                Checks.due("with other names", stepped(other, steps).rules(), stepped(theory, steps).rules());
                Checks.due("what waits then", stepped(other, steps).waiting(), stepped(theory, steps).waiting());
            }
        }
    }

    // ---- calls

    private static void declaresByLetter() {
        Checks.sentence("Declares a symbol by its letter.");
        for (char letter = 'a'; letter <= 'h'; letter++) {
            for (int places = 0; places <= 2; places++) {
                Run x = new Run("");
                Checks.due("before", x.normalize(letter + "x".repeat(places)).startsWith("Illegal"), true);
                Checks.due("declare " + letter, x.declare(letter, places), "done");
                for (int terms = 0; terms <= 3; terms++) {
                    String text = letter + "x".repeat(terms);
                    Checks.due(text, x.normalize(text).equals("0 " + text), terms == places);
                }
            }
        }
    }

    /** Something to do on an object. */
    private interface Calls {
        void on(Run x);
    }

    /** Objects in each of the states, with rules, equations and a draft: the same one for the same number. */
    private static Run inState(int state) {
        Run x = new Run("a0b1d1f2g1");
        x.ruleByRule("bbx=x", "dbx=bdx");
        if (state == FAILED) {
            x.ruleByRule("fxy=fyx");
        } else if (state == FULL) {
            x.ruleByRule("gx=fxfxx", "a=gggga");
        } else if (state == RUNNING) {
            Checks.due("one waits", x.equation("ffxyz=fxfyz"), 1);
            Checks.due("two wait", x.equation("fxa=x"), 2);
        }
        x.text("dbbx");
        Checks.due("the state that is asked for", x.complete(0), state);
        return x;
    }

    private static String seen(Run x) {
        return x.all() + "; " + x.draft();
    }

    /** What is done leaves all as it was, in every state. */
    private static void changesNothing(String name, Calls calls) {
        for (int state = RUNNING; state <= FULL; state++) {
            Run x = inState(state);
            calls.on(x);
            Checks.due(name + " in state " + state, seen(x), seen(inState(state)));
        }
    }

    private static void answersChangeNothing() {
        Checks.sentence("Nothing is promised beyond the answers and state changes described above");
        changesNothing("steps", Run::steps);
        changesNothing("rules", Run::ruleCount);
        changesNothing("waiting", Run::waitingCount);
        changesNothing("rule", x -> x.rule(0, 0));
        changesNothing("equationAt", x -> x.equationAt(0, 0));
        changesNothing("draft", x -> x.draft(0));
        changesNothing("complete(0)", x -> x.complete(0));
        changesNothing("write(0)", x -> x.write(0));
        changesNothing("compare", x -> {
            x.compare("dbx=bdx");
            x.text("dbbx");
        });
    }

    private static void refusalsChangeNothing() {
        changesNothing("declare i", x -> Checks.due("i", x.declare('i', 0), "IllegalArgumentException"));
        changesNothing("declare c with 3 places", x -> Checks.due("c", x.declare('c', 3), "IllegalArgumentException"));
        changesNothing("declare a", x -> Checks.due("a", x.declare('a', 1), "IllegalStateException"));
        changesNothing("complete(21)", x -> Checks.due("21", x.complete(21), "IllegalArgumentException"));
        changesNothing("complete(-1)", x -> Checks.due("-1", x.complete(-1), "IllegalArgumentException"));
        changesNothing("equation", x -> Checks.due("no =", x.equation(), "IllegalArgumentException"));
        changesNothing("compare", x -> Checks.due("no =", x.compare(), "IllegalArgumentException"));
        changesNothing("normalize", x -> {
            Checks.due("no term", x.normalize("dbbx="), "IllegalArgumentException dbbx=");
            x.text("dbbx");
        });
        Run x = new Run("");
        x.declare('c', 3);
        Checks.due("a symbol that was refused", x.normalize("c"), "IllegalArgumentException c");
    }

    private static void nothingElseChanges() {
        String draft = "; dbbx";
        for (int state = RUNNING; state <= FULL; state++) {
            String all = inState(state).all();
            Run x = inState(state);
            Checks.due("declare", x.declare('c', 2), "done");
            Checks.due("only a symbol is new", seen(x), all + draft);
            x.write('c');
            Checks.due("only the draft is longer", seen(x), all + draft + "c");
            x.wipe();
            Checks.due("only the draft is empty", seen(x), all + "; ");
            Run y = inState(state);
            Checks.due("normalize", y.normalize() instanceof Integer, true);
            Checks.due("only the draft has become another", seen(y), all + "; dx");
            Run z = inState(state);
            z.clear();
            Checks.due("clear leaves the draft", seen(z), "DONE 0: ; " + draft);
            Checks.due("clear leaves the symbols", z.normalize() + " " + z.declare('f', 0), "0 IllegalStateException");
        }
        Run x = inState(RUNNING);
        Checks.due("equation", x.equation("bx=x"), 3);
        Checks.due("it comes last, and the draft stays", seen(x),
                inState(RUNNING).all() + " bu=u; bx=x");
        x.complete(1);
        Checks.due("a step leaves the draft", x.draft(), "bx=x");
    }

    private static void objectsAreApart() {
        Checks.sentence("No symbols, no rules, nothing is waiting, the draft is empty.");
        Run x = begun(GROUP);
        Run y = new Run("f1g2");
        x.complete(20);
        Checks.due("nothing of it in another one", y.all() + y.draft(), "DONE 0: ; ");
        y.ruleByRule("gxy=fx");
        Checks.due("the other one has its own", y.all(), "DONE 1: guv>fu; ");
        Checks.due("and its own draft", y.draft(), "gxy=fx");
        Checks.due("the first one goes on", x.complete(20), DONE);
        Checks.due("as if it were alone", x.steps() + " " + x.ruleCount(), "31 10");
        y.clear();
        Checks.due("clear is of one", x.ruleCount(), 10);
        Run z = new Run("");
        Checks.due("a new one", z.all() + z.draft(), "DONE 0: ; ");
        Checks.due("has no symbols", z.normalize("e"), "IllegalArgumentException e");
    }
}
