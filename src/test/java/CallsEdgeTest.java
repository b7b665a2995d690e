/**
 * Promises 1 to 15, sentence by sentence: the last input that is still inside of what the sentence
 * says and the first one that is outside, the answer or the exception, and what is to be seen behind it.
 */
public final class CallsEdgeTest {
    private static final String ARGUMENT = "IllegalArgumentException";
    private static final String STATE = "IllegalStateException";
    private static final String UNSUPPORTED = "UnsupportedOperationException";
    private static final int LEAST = Integer.MIN_VALUE;
    private static final int MOST = Integer.MAX_VALUE;

    /** 24 letters and 25, where a has no place and b one. */
    private static final String SIDE_24 = "b".repeat(23) + "a";
    private static final String SIDE_25 = "b".repeat(24) + "a";

    public static void main(String[] args) {
        newObject();
        objectsApart();
        declareLetters();
        declarePlaces();
        declareAgain();
        writeBytes();
        writeZeros();
        writeSixty();
        wipe();
        equationForm();
        equationLetters();
        equationAsItIs();
        equationCount();
        equationWhenFailed();
        equationWhenFull();
        completeRange();
        completeWhileWaiting();
        completeAnswer();
        completeStops();
        steps();
        stepsOfFullAndFailed();
        rules();
        waiting();
        ruleCharacters();
        ruleNumbers();
        equationCharacters();
        equationNumbers();
        normalizeForm();
        normalizeAnswer();
        normalizeOutOfBounds();
        compareForm();
        compareAnswer();
        draftCharacters();
        clearAll();
        clearFailedAndFull();
        clearKeeps();
        lastCall();
        Checks.end("CallsEdgeTest");
    }

    /** A call that is refused: the exception, and nothing changes, neither the draft nor anything else. */
    private static void refused(String what, Run x, Checks.Call call, String exception) {
        String before = x.all() + " " + x.draft();
        Checks.due(what, call.answer(), exception);
        Checks.due(what + ": changing nothing", x.all() + " " + x.draft(), before);
    }

    // ---- 1

    private static void newObject() {
        Checks.sentence("1: No symbols, no rules, nothing is waiting, the draft is empty.");
        Run x = new Run("");
        Checks.due("no rules", x.ruleCount() + " " + x.rule(0, 0), "0 0");
        Checks.due("nothing waiting", x.waitingCount() + " " + x.equationAt(0, 0), "0 0");
        Checks.due("the draft is empty", x.draft(0), 0);
        Checks.due("no step", x.steps(), 0);
        Checks.due("neither FAILED nor FULL", x.complete(20), 1);
        Checks.due("an empty draft is no equation", x.equation(), ARGUMENT);
        Checks.due("nor a term", x.normalize(), ARGUMENT);
        Checks.due("nor two", x.compare(), ARGUMENT);
        for (char c = 'a'; c <= 'h'; c++) {
            Checks.due("no symbol", x.normalize("" + c), ARGUMENT + " " + c);
            Checks.due("it can be declared", x.declare(c, 0), "done");
            Checks.due("then it is one", x.normalize("" + c), "0 " + c);
        }
    }

    private static void objectsApart() {
        Checks.sentence("1: No symbols, no rules, nothing is waiting, the draft is empty.");
        Run x = new Run("a0b1");
        x.ruleByRule("bx=x");
        Checks.due("one more", x.equation("bba=a"), 1);
        Run y = new Run("");
        Checks.due("another object is new all the same", y.all() + y.draft(), "DONE 0: ; ");
        Checks.due("it has no symbols", y.declare('a', 1), "done");
        Checks.due("the first one keeps its own", x.normalize("ba"), "1 a");
    }

    // ---- 2

    private static void declareLetters() {
        Checks.sentence("2: IllegalArgumentException when it is not a .. h");
        Run x = new Run("");
        int[] outside = {'a' - 1, 'h' + 1, 0, 'A', 'H', 'u', 'z', '=', 128 + 'a', 256 + 'a', 256 + 'h', 65535};
        for (int letter : outside) {
            refused("letter " + letter, x, () -> x.declare(letter, 0), ARGUMENT);
        }
        Checks.due("a", x.declare('a', 0), "done");
        Checks.due("h", x.declare('h', 0), "done");
        Checks.due("a is the first and h the second", x.compare("h=a"), 1);
        Checks.due("behind h, once more", x.declare('h' + 1, 0), ARGUMENT);
        Checks.due("before a, once more", x.declare('a' - 1, 0), ARGUMENT);
    }

    private static void declarePlaces() {
        Checks.sentence("2: or places not 0 .. 2");
        Run x = new Run("");
        int[] outside = {-1, 3, LEAST, MOST, 256, -2};
        for (int places : outside) {
            refused("places " + places, x, () -> x.declare('b', places), ARGUMENT);
        }
        Checks.due("it was not declared", x.normalize("b"), ARGUMENT + " b");
        Checks.due("0", x.declare('a', 0), "done");
        Checks.due("1", x.declare('b', 1), "done");
        Checks.due("2", x.declare('c', 2), "done");
        Checks.due("terms of them", x.normalize("cbaa"), "0 cbaa");
    }

    private static void declareAgain() {
        Checks.sentence("2: IllegalStateException when it is declared already");
        Run x = new Run("a0b1");
        refused("with the same places", x, () -> x.declare('b', 1), STATE);
        refused("with other places", x, () -> x.declare('b', 2), STATE);
        Checks.due("the places stay", x.normalize("ba"), "0 ba");
        Checks.due("the order stays", x.compare("a=ba"), -1);
        refused("with places that none has", x, () -> x.declare('b', 3), ARGUMENT);
        Checks.due("another one", x.declare('c', 1), "done");
        refused("that one again", x, () -> x.declare('c', 1), STATE);
        for (char letter : "defgh".toCharArray()) {
            Checks.due("all eight", x.declare(letter, 0), "done");
        }
        refused("all are declared", x, () -> x.declare('h', 0), STATE);
    }

    // ---- 3

    private static void writeBytes() {
        Checks.sentence("3: Adds the characters in the eight bytes of a long, the lowest first, to the draft");
        Run x = new Run("");
        Checks.due("one", x.write('a'), true);
        Checks.due("the lowest first", x.write(0x6867666564636261L) + " " + x.draft(), "true aabcdefgh");
        x.wipe();
        Checks.due("the highest byte, with its highest bit", x.write(0xFF80000000000001L), true);
        Checks.due("all bytes are 1 .. 255", x.draft(0) + " " + x.draft(1) + " " + x.draft(2) + " " + x.draft(3), "1 128 255 0");
        x.wipe();
        Checks.due("all bits", x.write(-1L) + " " + x.draft().equals("\u00ff".repeat(8)), "true true");
    }

    private static void writeZeros() {
        Checks.sentence("3: bytes 0 are left out");
        Run x = new Run("");
        Checks.due("nothing but zeros", x.write(0) + " " + x.draft(), "true ");
        Checks.due("between", x.write(0x6100006200630000L) + " " + x.draft(), "true cba");
        Checks.due("the highest alone", x.write(0x6400000000000000L) + " " + x.draft(), "true cbad");
    }

    private static void writeSixty() {
        Checks.sentence("3: False, changing nothing, when it would have more than 60 characters.");
        Run x = new Run("");
        for (int i = 0; i < 6; i++) {
            Checks.due("up to 48", x.write(0x6161616161616161L), true);
        }
        Checks.due("up to 52", x.write(0x61616161L), true);
        Checks.due("eight up to 60", x.write(0x6261616161616162L) + " " + x.draft(), "true " + "a".repeat(52) + "baaaaaab");
        Checks.due("one more", x.write('c') + " " + x.draft(), "false " + "a".repeat(52) + "baaaaaab");
        Checks.due("one more of the least value", x.write(1), false);
        Checks.due("one more of the greatest value", x.write(0xFFL << 56), false);
        Checks.due("none more", x.write(0) + " " + x.draft(60), "true 0");
        Run y = new Run("");
        for (int i = 0; i < 6; i++) {
            Checks.due("up to 48", y.write(0x6161616161616161L), true);
        }
        Checks.due("up to 53", y.write(0x6161616161L), true);
        Checks.due("eight would be 61", y.write(0x6262626262626262L), false);
        Checks.due("none of them came", y.draft(), "a".repeat(53));
        Checks.due("seven and a zero", y.write(0x6262620062626262L) + " " + y.draft(), "true " + "a".repeat(53) + "bbbbbbb");
    }

    // ---- 4

    private static void wipe() {
        Checks.sentence("4: Makes the draft empty.");
        Run x = new Run("a0b1");
        x.wipe();
        Checks.due("an empty one", x.draft(), "");
        x.ruleByRule("bbx=x");
        Checks.due("one that waits", x.equation("bba=a"), 1);
        x.text("a".repeat(60));
        String before = x.all();
        x.wipe();
        Checks.due("a full one", x.draft(0) + " " + x.draft(59), "0 0");
        Checks.due("all else stays", x.all(), before);
        x.text("b".repeat(59) + "x");
        Checks.due("there is room for sixty again", x.draft(), "b".repeat(59) + "x");
    }

    // ---- 5

    private static void equationForm() {
        Checks.sentence("5: The draft has to be two texts of terms, of 24 letters at most, with = between them");
        Run x = new Run("a0b1f2");
        String[] outside = {"", "=", "a", "a=", "=a", "a=a=a", "a==a", "=a=a", "a=a=", "b=a", "a=b", "faaa=a", "a=faaa", "fa=a",
            "a=fa", "c=a", "a=c", "t=a", "a=t", "a>a", "a=a ", " a=a", "a =a", "a= a", "A=a", "a=\u00e1", "\u00bd", "a\u00bda"};
        for (String text : outside) {
            x.text(text);
            Checks.due("no equation: " + text, x.equation() + " " + x.draft(), ARGUMENT + " " + text);
        }
        Checks.due("none came", x.waitingCount(), 0);
        Checks.due("one letter each", x.equation("x=a"), 1);
    }

    private static void equationLetters() {
        Checks.sentence("5: of 24 letters at most");
        Run x = new Run("a0b1");
        Checks.due("24 at the left", x.equation(SIDE_24 + "=a"), 1);
        Checks.due("24 at the right", x.equation("a=" + SIDE_24), 2);
        Checks.due("24 and 24", x.equation(SIDE_24 + "=" + SIDE_24), 3);
        Checks.due("they are there", x.waiting(), SIDE_24 + "=a a=" + SIDE_24 + " " + SIDE_24 + "=" + SIDE_24);
        Checks.due("25 at the left", x.equation(SIDE_25 + "=a"), ARGUMENT);
        Checks.due("25 at the right", x.equation("a=" + SIDE_25), ARGUMENT);
        Checks.due("25 and 24", x.equation(SIDE_25 + "=" + SIDE_24), ARGUMENT);
        Checks.due("58 and 1", x.equation("b".repeat(57) + "a=a"), ARGUMENT);
        Checks.due("sixty and no =", x.equation("b".repeat(59) + "a"), ARGUMENT);
        Checks.due("sixty with = at the end", x.equation("b".repeat(58) + "a="), ARGUMENT);
        Checks.due("none came", x.waitingCount(), 3);
    }

    private static void equationAsItIs() {
        Checks.sentence("5: this pair is renamed, and comes behind the waiting equations as it is (whether it is there already"
                + " or not). How many are waiting then.");
        Run x = new Run("a0b1f2");
        x.ruleByRule("bx=x");
        Checks.due("first", x.equation("bbz=fzy"), 1);
        Checks.due("again", x.equation(), 2);
        Checks.due("exchanged", x.equation("fzy=bbz"), 3);
        Checks.due("the same sides", x.equation("bz=bz"), 4);
        Checks.due("as they came, renamed", x.waiting(), "bbu=fuv bbu=fuv fuv=bbu bu=bu");
    }

    private static void equationCount() {
        Checks.sentence("5: IllegalStateException when 48 are waiting");
        Run x = new Run("a0b1");
        x.waitFor("bz=y", 47);
        Checks.due("47", x.waitingCount(), 47);
        Checks.due("the 48th", x.equation("bba=a"), 48);
        Checks.due("the last one", x.equationAt(47), "bba=a");
        Checks.due("the 49th", x.equation("ba=a"), STATE);
        Checks.due("its draft stays", x.draft(), "ba=a");
        Checks.due("none came", x.waitingCount() + " " + x.equationAt(47) + " " + x.equationAt(48, 0), "48 bba=a 0");
        Checks.due("a draft that is none", x.equation("ba"), ARGUMENT);
        Checks.due("a step, which fails", x.complete(1), 2);
        Run y = new Run("a0b1");
        y.waitFor("ba=a", 48);
        Checks.due("no room", y.equation(), STATE);
        Checks.due("a step makes room", y.complete(1) + " " + y.waitingCount(), "0 47");
        Checks.due("for one", y.equation(), 48);
        Checks.due("for one only", y.equation(), STATE);
    }

    private static void equationWhenFailed() {
        Checks.sentence("5: or it is FAILED or FULL. The draft stays in any case.");
        Run x = new Run("a0b1");
        Checks.due("one that can't be turned", x.equation("x=y"), 1);
        Checks.due("it is not FAILED yet", x.equation("ba=a") + " " + x.draft(), "2 ba=a");
        Checks.due("now it is", x.complete(1), 2);
        refused("when it is FAILED", x, x::equation, STATE);
        x.text("ba");
        refused("when it is FAILED, and no equation", x, x::equation, ARGUMENT);
        x.clear();
        Checks.due("cleared", x.equation("ba=a") + " " + x.draft(), "1 ba=a");
    }

    /** An object that is FULL, since a side got 25 letters; one equation is waiting. */
    private static Run full() {
        Run x = new Run("a0e1b2c1d1");
        x.ruleByRule("cx=bxx", "da=a");
        Checks.due("one that is taken", x.equation("edc" + "ba".repeat(5) + "a=a"), 1);
        Checks.due("one that is not reached", x.equation("d" + "e".repeat(20) + "a=a"), 2);
        Checks.due("FULL", x.complete(20), 3);
        return x;
    }

    private static void equationWhenFull() {
        Checks.sentence("5: or it is FAILED or FULL. The draft stays in any case.");
        Run x = full();
        x.text("ea=a");
        Checks.due("when it is FULL", x.equation() + " " + x.draft(), STATE + " ea=a");
        Checks.due("none came", x.waitingCount(), 1);
        Checks.due("when it is FULL, and no equation", x.equation("ea") + " " + x.draft(), ARGUMENT + " ea");
        x.clear();
        Checks.due("cleared", x.equation("ea=a") + " " + x.draft(), "1 ea=a");
    }

    // ---- 6

    private static void completeRange() {
        Checks.sentence("6: IllegalArgumentException when steps is not 0 .. 20.");
        Run x = new Run("a0b1");
        x.waitFor("bx=x", 22);
        int[] outside = {-1, 21, LEAST, MOST};
        for (int steps : outside) {
            Checks.due("steps " + steps, x.complete(steps), ARGUMENT);
            Checks.due("changing nothing", x.steps() + " " + x.ruleCount() + " " + x.waitingCount(), "0 0 22");
        }
        Checks.due("0", x.complete(0) + " " + x.steps() + " " + x.waitingCount(), "0 0 22");
        Checks.due("1", x.complete(1) + " " + x.steps() + " " + x.waitingCount(), "0 1 21");
        Checks.due("20", x.complete(20) + " " + x.steps() + " " + x.waitingCount(), "0 21 1");
        Run y = new Run("a0");
        Checks.due("-1 when nothing is waiting", y.complete(-1), ARGUMENT);
        Checks.due("21 when nothing is waiting", y.complete(21), ARGUMENT);
        Checks.due("21 when it is FULL", full().complete(21), ARGUMENT);
        y.ruleByRule("x=y");
        Checks.due("-1 when it is FAILED", y.complete(-1) + " " + y.state(), ARGUMENT + " FAILED");
    }

    private static void completeWhileWaiting() {
        Checks.sentence("6: Makes so many steps, as long as some equation is waiting and it is not FAILED or FULL.");
        Run x = new Run("a0b1");
        Checks.due("nothing is waiting", x.complete(20) + " " + x.steps(), "1 0");
        x.waitFor("bx=x", 20);
        Checks.due("19 of 20", x.complete(19) + " " + x.steps() + " " + x.waitingCount(), "0 19 1");
        Checks.due("the last one", x.complete(20) + " " + x.steps() + " " + x.waitingCount(), "1 20 0");
        x.waitFor("bx=x", 20);
        Checks.due("20 of 20", x.complete(20) + " " + x.steps() + " " + x.waitingCount(), "1 40 0");
        x.waitFor("bx=x", 21);
        Checks.due("20 of 21", x.complete(20) + " " + x.steps() + " " + x.waitingCount(), "0 60 1");
        // What comes in a step is taken by the next one.
        Run y = new Run("a0b1");
        Checks.due("one equation", y.equation("bbx=a"), 1);
        Checks.due("two steps", y.complete(20) + " " + y.steps() + " " + y.rules(), "1 2 bbu>a ba>a");
    }

    private static void completeAnswer() {
        Checks.sentence("6: FAILED or FULL, if it is so; else RUNNING if some equation is waiting, else DONE.");
        Run x = new Run("a0b1");
        Checks.due("nothing was ever waiting", x.complete(0), 1);
        Checks.due("one comes", x.equation("ba=a"), 1);
        Checks.due("one is waiting", x.complete(0), 0);
        Checks.due("none is waiting", x.complete(1), 1);
        Checks.due("one comes that fails", x.equation("x=y"), 1);
        Checks.due("it has not failed yet", x.complete(0), 0);
        Checks.due("FAILED, though none is waiting", x.complete(1) + " " + x.waitingCount(), "2 0");
        Checks.due("FAILED still", x.complete(0), 2);
        Run y = full();
        Checks.due("FULL, though one is waiting", y.complete(0) + " " + y.waitingCount(), "3 1");
    }

    private static void completeStops() {
        Checks.sentence("6: Makes so many steps, as long as some equation is waiting and it is not FAILED or FULL.");
        Run x = new Run("a0b1f2");
        Checks.due("taken first", x.equation("ba=a"), 1);
        Checks.due("taken second, it fails", x.equation("ba=x"), 2);
        Checks.due("never taken", x.equation("bbba=a"), 3);
        Checks.due("two steps of twenty", x.complete(20) + " " + x.all(), "2 FAILED 2: ba>a; bbba=a");
        Checks.due("none more", x.complete(20) + " " + x.all(), "2 FAILED 2: ba>a; bbba=a");
        Run y = full();
        Checks.due("none more when it is FULL", y.steps() + " " + y.complete(20) + " " + y.steps() + " " + y.waitingCount(),
                "3 3 3 1");
    }

    // ---- 7

    private static void steps() {
        Checks.sentence("7: How many steps were made since the beginning or the latest clear()");
        Run x = new Run("a0b1");
        Checks.due("at the beginning", x.steps(), 0);
        x.waitFor("bx=x", 3);
        Checks.due("none by equations", x.steps(), 0);
        Checks.due("none by no steps", x.complete(0) + " " + x.steps(), "0 0");
        Checks.due("one", x.complete(1) + " " + x.steps(), "0 1");
        Checks.due("a step without a new rule counts", x.complete(1) + " " + x.steps(), "0 2");
        Checks.due("as many as were made", x.complete(20) + " " + x.steps(), "1 3");
        Checks.due("none by nothing", x.complete(20) + " " + x.steps(), "1 3");
        Checks.due("none by a refused call", x.complete(21) + " " + x.steps(), ARGUMENT + " 3");
        Checks.due("none by other calls", x.normalize("bba") + " " + x.compare("ba=a") + " " + x.steps(), "2 a 1 3");
        x.clear();
        Checks.due("cleared", x.steps(), 0);
        x.ruleByRule("bx=x");
        Checks.due("one since then", x.steps(), 1);
    }

    private static void stepsOfFullAndFailed() {
        Checks.sentence("7: those in which it was FULL or FAILED counting too");
        Run x = new Run("a0b1");
        x.ruleByRule("bx=x");
        Checks.due("before", x.steps(), 1);
        x.ruleByRule("x=y");
        Checks.due("the one that FAILED", x.state() + " " + x.steps(), "FAILED 2");
        Checks.due("none behind it", x.complete(20) + " " + x.steps(), "2 2");
        Run y = full();
        Checks.due("the one that was FULL", y.state() + " " + y.steps(), "FULL 3");
        Checks.due("none behind it", y.complete(20) + " " + y.steps(), "3 3");
        y.clear();
        Checks.due("cleared", y.steps(), 0);
    }

    // ---- 8, 9

    private static void rules() {
        Checks.sentence("8: How many rules there are.");
        Run x = new Run("a0b1c1");
        Checks.due("none", x.ruleCount(), 0);
        x.ruleByRule("cba=a", "cca=a");
        Checks.due("two", x.ruleCount(), 2);
        x.ruleByRule("ca=ca");
        Checks.due("the same sides are none", x.ruleCount(), 2);
        x.ruleByRule("cx=x");
        Checks.due("two taken away, one come", x.ruleCount() + " " + x.rules(), "1 cu>u");
        x.clear();
        Checks.due("cleared", x.ruleCount(), 0);
    }

    private static void waiting() {
        Checks.sentence("9: How many equations are waiting.");
        Run x = new Run("a0b1c1");
        Checks.due("none", x.waitingCount(), 0);
        x.waitFor("bbx=a", 2);
        Checks.due("two", x.waitingCount(), 2);
        Checks.due("one taken, one come", x.complete(1) + " " + x.waitingCount(), "0 2");
        // bbx = a is taken behind ba = a, which has less letters; then both sides are the same.
        Checks.due("none at the end", x.complete(20) + " " + x.waitingCount() + " " + x.steps(), "1 0 3");
        Checks.due("one more", x.equation("ca=a") + " " + x.waitingCount(), "1 1");
        x.clear();
        Checks.due("cleared", x.waitingCount(), 0);
    }

    // ---- 10, 11

    private static void ruleCharacters() {
        Checks.sentence("10: Character i of the text of rule k: its left side, >, and its right side; 0 when there is none.");
        Run x = new Run("a0b1");
        x.ruleByRule(SIDE_24 + "=b" + "b".repeat(21) + "a");
        String text = SIDE_24 + ">" + "b".repeat(22) + "a";
        Checks.due("all of it", x.rule(0), text);
        Checks.due("the last of the left side", x.rule(0, 23), (int) 'a');
        Checks.due(">", x.rule(0, 24), (int) '>');
        Checks.due("the first of the right side", x.rule(0, 25), (int) 'b');
        Checks.due("the last", x.rule(0, 47), (int) 'a');
        Checks.due("behind it", x.rule(0, 48), 0);
        Checks.due("the first", x.rule(0, 0), (int) 'b');
        Checks.due("before it", x.rule(0, -1), 0);
        Checks.due("far behind", x.rule(0, MOST), 0);
        Checks.due("far before", x.rule(0, LEAST), 0);
        Run y = new Run("a0f2");
        y.ruleByRule("fxy=x");
        Checks.due("a short right side", y.rule(0, 4) + " " + y.rule(0, 5), (int) 'u' + " 0");
        y.clear();
        y.ruleByRule("y=fxy");
        Checks.due("all of that", y.rule(0) + " " + y.rule(0, 5), "fuv>v 0");
    }

    private static void ruleNumbers() {
        Checks.sentence("10: Character i of the text of rule k: its left side, >, and its right side; 0 when there is none.");
        Run x = new Run("a0b1c1");
        Checks.due("no rule", x.rule(0, 0), 0);
        x.ruleByRule("ba=a", "ca=a");
        Checks.due("the last rule", x.rule(1, 0), (int) 'c');
        Checks.due("behind it", x.rule(2, 0), 0);
        Checks.due("the first rule", x.rule(0, 0), (int) 'b');
        Checks.due("before it", x.rule(-1, 0), 0);
        Checks.due("behind all that can be", x.rule(13, 0) + " " + x.rule(14, 0), "0 0");
        Checks.due("far behind", x.rule(MOST, 0) + " " + x.rule(MOST, MOST), "0 0");
        Checks.due("far before", x.rule(LEAST, 0) + " " + x.rule(LEAST, LEAST), "0 0");
        x.ruleByRule("bx=x");
        Checks.due("where one was taken away", x.rules() + " " + x.rule(2, 0), "ca>a bu>u 0");
        x.clear();
        Checks.due("cleared", x.rule(0, 0), 0);
    }

    private static void equationCharacters() {
        Checks.sentence("11: Character i of the text of the k-th waiting equation, from 0: its left side, =, and its right side;"
                + " 0 when there is none.");
        Run x = new Run("a0b1");
        Checks.due("the longest that there is", x.equation(SIDE_24 + "=" + SIDE_24), 1);
        Checks.due("the last of the left side", x.equationAt(0, 23), (int) 'a');
        Checks.due("=", x.equationAt(0, 24), (int) '=');
        Checks.due("the first of the right side", x.equationAt(0, 25), (int) 'b');
        Checks.due("the last", x.equationAt(0, 48), (int) 'a');
        Checks.due("behind it", x.equationAt(0, 49), 0);
        Checks.due("the first", x.equationAt(0, 0), (int) 'b');
        Checks.due("before it", x.equationAt(0, -1), 0);
        Checks.due("far behind", x.equationAt(0, MOST), 0);
        Checks.due("far before", x.equationAt(0, LEAST), 0);
        Checks.due("the shortest that there is", x.equation("z=a"), 2);
        Checks.due("all of that", x.equationAt(1) + " " + x.equationAt(1, 3), "u=a 0");
    }

    private static void equationNumbers() {
        Checks.sentence("11: Character i of the text of the k-th waiting equation, from 0: its left side, =, and its right side;"
                + " 0 when there is none.");
        Run x = new Run("a0b1c1");
        Checks.due("none", x.equationAt(0, 0), 0);
        x.waitFor("ba=a", 47);
        Checks.due("the 48th", x.equation("ca=a") + " " + x.equationAt(47, 0), "48 " + (int) 'c');
        Checks.due("behind it", x.equationAt(48, 0), 0);
        Checks.due("the first", x.equationAt(0, 0), (int) 'b');
        Checks.due("before it", x.equationAt(-1, 0), 0);
        Checks.due("far behind", x.equationAt(MOST, 0) + " " + x.equationAt(MOST, MOST), "0 0");
        Checks.due("far before", x.equationAt(LEAST, 0) + " " + x.equationAt(LEAST, LEAST), "0 0");
        Checks.due("a step", x.complete(1), 0);
        Checks.due("they move up", x.equationAt(46, 0) + " " + x.equationAt(47, 0), (int) 'c' + " 0");
        x.clear();
        Checks.due("cleared", x.equationAt(0, 0), 0);
    }

    // ---- 12

    private static void normalizeForm() {
        Checks.sentence("12: The draft has to be a text of a term with 24 letters at most");
        Run x = new Run("a0b1f2");
        x.ruleByRule("bx=x");
        Checks.due("24 letters", x.normalize(SIDE_24), "23 a");
        Checks.due("25 letters", x.normalize(SIDE_25), ARGUMENT + " " + SIDE_25);
        Checks.due("60 letters", x.normalize("b".repeat(59) + "a"), ARGUMENT + " " + "b".repeat(59) + "a");
        Checks.due("one letter", x.normalize("a"), "0 a");
        String[] outside = {"", "b", "fa", "faaa", "aa", "ba=a", "ba=", "=", "c", "t", "{", "B", "ba ", " ba", "\u00e1"};
        for (String text : outside) {
            Checks.due("no term: " + text, x.normalize(text), ARGUMENT + " " + text);
        }
        Checks.due("all else stays", x.all(), "DONE 1: bu>u; ");
    }

    private static void normalizeAnswer() {
        Checks.sentence("12: it becomes the text of its normal form: how many rewritings that took");
        Run x = new Run("a0b2c1d1");
        x.ruleByRule("dx=x", "cx=bxx");
        Checks.due("none", x.normalize("bza"), "0 bza");
        Checks.due("it gets shorter", x.normalize("dddz"), "3 z");
        Checks.due("nothing is left behind it", x.draft(1) + " " + x.draft(2) + " " + x.draft(3), "0 0 0");
        Checks.due("it gets longer", x.normalize("ccz"), "3 bbzzbzz");
        Checks.due("more can be written behind it", x.write('=') + " " + x.write('z') + " " + x.draft(), "true true bbzzbzz=z");
        Checks.due("as a draft for other calls", x.compare(), 1);
        Checks.due("all else stays", x.all(), "DONE 2: du>u cu>buu; ");
    }

    private static void normalizeOutOfBounds() {
        Checks.sentence("12: UnsupportedOperationException, the draft staying, when it is out of bounds");
        Run x = new Run("a0e1b2c1");
        x.ruleByRule("cx=bxx");
        String eleven = "ba".repeat(5) + "a";
        Checks.due("24 letters", x.normalize("ec" + eleven), "1 eb" + eleven + eleven);
        x.text("eec" + eleven);
        refused("25 letters", x, x::normalize, UNSUPPORTED);
        // Behind the first rewriting it has 18 letters, and behind the second one 35.
        x.text("cec" + "ba".repeat(3) + "a");
        refused("too long at the second rewriting", x, x::normalize, UNSUPPORTED);
        Checks.due("it works still", x.normalize("ca"), "1 baa");
        Checks.due("when it is FULL", full().normalize("ca"), "1 baa");
    }

    // ---- 13

    private static void compareForm() {
        Checks.sentence("13: The draft has to be as for equation()");
        Run x = new Run("a0b1f2");
        String[] outside = {"", "=", "a", "a=", "=a", "a=a=a", "a==a", "b=a", "a=b", "fa=a", "a=faaa", "c=a", "a=t", "a>a", "a=a ",
            SIDE_25 + "=a", "a=" + SIDE_25, SIDE_25 + "=" + SIDE_25, "b".repeat(59) + "a"};
        for (String text : outside) {
            Checks.due("not so: " + text, x.compare(text) + " " + x.draft(), ARGUMENT + " " + text);
        }
        Checks.due("24 and 1", x.compare(SIDE_24 + "=a"), 1);
        Checks.due("1 and 24", x.compare("a=" + SIDE_24), -1);
        Checks.due("24 and 24", x.compare(SIDE_24 + "=" + SIDE_24), 0);
        Checks.due("nothing came", x.all(), "DONE 0: ; ");
    }

    private static void compareAnswer() {
        Checks.sentence("13: ABOVE if the left term is above the right one, BELOW if that is above the left one, SAME if they are"
                + " the same, else NEITHER");
        Run x = new Run("a0b1f2");
        Checks.due("ABOVE", x.compare("bx=x"), 1);
        Checks.due("BELOW", x.compare("x=bx"), -1);
        Checks.due("SAME", x.compare("bx=bx"), 0);
        Checks.due("NEITHER", x.compare("bx=by"), 2);
        Checks.due("the draft stays", x.draft(), "bx=by");
        x.waitFor("fxy=x", 48);
        Checks.due("when 48 are waiting", x.compare("ba=a"), 1);
        Checks.due("a step", x.complete(1), 0);
        Checks.due("rules do not make them the same", x.compare("faa=a"), 1);
        Run y = new Run("a0");
        y.ruleByRule("x=y");
        Checks.due("when it is FAILED", y.compare("x=y"), 2);
        Checks.due("when it is FULL", full().compare("ca=a"), 1);
    }

    // ---- 14

    private static void draftCharacters() {
        Checks.sentence("14: Character i of the draft; 0 when there is none.");
        Run x = new Run("a0");
        Checks.due("empty", x.draft(0) + " " + x.draft(-1), "0 0");
        x.text("ax");
        Checks.due("the first", x.draft(0), (int) 'a');
        Checks.due("before it", x.draft(-1), 0);
        Checks.due("the last", x.draft(1), (int) 'x');
        Checks.due("behind it", x.draft(2), 0);
        x.text("ab".repeat(30));
        Checks.due("the last of sixty", x.draft(59), (int) 'b');
        Checks.due("behind sixty", x.draft(60), 0);
        Checks.due("far behind", x.draft(MOST), 0);
        Checks.due("far before", x.draft(LEAST), 0);
        x.text("a");
        Checks.due("nothing is left of it", x.draft(1) + " " + x.draft(59), "0 0");
    }

    // ---- 15

    private static void clearAll() {
        Checks.sentence("15: No rules, nothing waiting");
        Run x = new Run("a0b1c1");
        x.clear();
        Checks.due("of a new object", x.all(), "DONE 0: ; ");
        x.ruleByRule("bx=x");
        Checks.due("one that waits", x.equation("cba=a"), 1);
        x.clear();
        Checks.due("of one with both", x.all() + " " + x.draft(), "DONE 0: ;  cba=a");
        Checks.due("nothing rewrites", x.normalize("bba"), "0 bba");
        x.ruleByRule("cba=a", "bx=x");
        Checks.due("a rule was taken away and is waiting", x.all(), "RUNNING 2: bu>u; ca=a");
        x.clear();
        x.ruleByRule("ca=ba");
        Checks.due("it does not come again", x.all(), "DONE 1: ca>ba; ");
        x.clear();
        x.waitFor("ba=a", 48);
        x.clear();
        Checks.due("48 of them", x.waitingCount(), 0);
        x.waitFor("ba=a", 48);
        Checks.due("there is room for 48 again", x.waitingCount(), 48);
        x.clear();
        x.clear();
        Checks.due("twice", x.all(), "DONE 0: ; ");
    }

    private static void clearFailedAndFull() {
        Checks.sentence("15: neither FAILED nor FULL any more");
        Run x = new Run("a0b1");
        x.ruleByRule("x=y");
        Checks.due("FAILED", x.state(), "FAILED");
        x.clear();
        Checks.due("not any more", x.all(), "DONE 0: ; ");
        x.ruleByRule("bx=x");
        Checks.due("it goes on", x.all(), "DONE 1: bu>u; ");
        Run y = full();
        y.clear();
        Checks.due("not FULL any more", y.all(), "DONE 0: ; ");
        y.ruleByRule("cx=x");
        Checks.due("it goes on", y.all(), "DONE 1: cu>u; ");
    }

    private static void clearKeeps() {
        Checks.sentence("15: symbols and the draft stay");
        Run x = new Run("b1a0");
        x.text("a=ba");
        x.clear();
        Checks.due("the draft stays", x.draft(), "a=ba");
        Checks.due("symbols stay, and their places", x.equation(), 1);
        refused("they are declared", x, () -> x.declare('a', 0), STATE);
        Checks.due("their order stays", x.compare("ba=a") + " " + x.compare("bx=a"), "1 2");
        Checks.due("others can be declared", x.declare('c', 0), "done");
    }

    // ---- the end

    private static void lastCall() {
        Checks.sentence("An object is used for at most 512 calls after it has been made");
        Run x = new Run("a0b1");
        x.ruleByRule("bx=x");
        x.text("bbba");
        while (x.callsLeft() > 2) {
            Checks.due("a call", x.draft(3), (int) 'a');
        }
        Checks.due("call 511", x.normalize(), 3);
        Checks.due("call 512", x.draft(0), (int) 'a');
    }
}
