/**
 * A new object and the calls that are made on it, with texts in and out. The calls are counted: the
 * document promises nothing behind the 512th, so a test that goes further would test nothing.
 */
final class Run {
    private static final int MOST_CALLS = 512;

    private final RuleCompletion object = new RuleCompletion();
    private int calls = 0;

    /** An object with these symbols, each given as its letter and its places. */
    Run(String symbols) {
        for (int i = 0; i < symbols.length(); i += 2) {
            Checks.due("declare " + symbols.charAt(i), declare(symbols.charAt(i), symbols.charAt(i + 1) - '0'), "done");
        }
    }

    private RuleCompletion call() {
        calls++;
        if (calls > MOST_CALLS) {
            throw new AssertionError("a test makes more than 512 calls on one object");
        }
        return object;
    }

    int callsLeft() {
        return MOST_CALLS - calls;
    }

    // ---- calls as they are: the answer, or the name of what is thrown

    Object declare(int letter, int places) {
        return Checks.of(() -> call().declare((char) letter, places));
    }

    boolean write(long characters) {
        return call().write(characters);
    }

    void wipe() {
        call().wipe();
    }

    Object equation() {
        return Checks.of(() -> call().equation());
    }

    Object complete(int steps) {
        return Checks.of(() -> call().complete(steps));
    }

    Object normalize() {
        return Checks.of(() -> call().normalize());
    }

    Object compare() {
        return Checks.of(() -> call().compare());
    }

    int steps() {
        return call().steps();
    }

    int ruleCount() {
        return call().rules();
    }

    int waitingCount() {
        return call().waiting();
    }

    int rule(int k, int i) {
        return call().rule(k, i);
    }

    int equationAt(int k, int i) {
        return call().equationAt(k, i);
    }

    int draft(int i) {
        return call().draft(i);
    }

    void clear() {
        call().clear();
    }

    // ---- texts in

    /** Makes this the draft. */
    void text(String text) {
        wipe();
        for (int i = 0; i < text.length(); i += 8) {
            Checks.due("write", write(packed(text.substring(i, Math.min(i + 8, text.length())))), true);
        }
    }

    private static long packed(String eight) {
        long bytes = 0;
        for (int i = 0; i < eight.length(); i++) {
            bytes |= (eight.charAt(i) & 255L) << (8 * i);
        }
        return bytes;
    }

    Object equation(String text) {
        text(text);
        return equation();
    }

    Object compare(String text) {
        text(text);
        return compare();
    }

    /** The answer, or what is thrown, and the draft behind it. */
    String normalize(String text) {
        text(text);
        return normalize() + " " + draft();
    }

    /** Each of the equations comes, and a step is made before the next one does: rules in this order. */
    void ruleByRule(String... texts) {
        for (String text : texts) {
            Checks.due("equation " + text, equation(text) instanceof Integer, true);
            complete(1);
        }
    }

    /** The same equation so many times. */
    void waitFor(String text, int times) {
        text(text);
        for (int i = 0; i < times; i++) {
            Checks.due("equation " + text, equation() instanceof Integer, true);
        }
    }

    // ---- texts out

    String draft() {
        StringBuilder text = new StringBuilder();
        for (int c = draft(0); c != 0; c = draft(text.length())) {
            text.append((char) c);
        }
        return text.toString();
    }

    String rule(int k) {
        StringBuilder text = new StringBuilder();
        for (int c = rule(k, 0); c != 0; c = rule(k, text.length())) {
            text.append((char) c);
        }
        return text.toString();
    }

    String equationAt(int k) {
        StringBuilder text = new StringBuilder();
        for (int c = equationAt(k, 0); c != 0; c = equationAt(k, text.length())) {
            text.append((char) c);
        }
        return text.toString();
    }

    /** All rules, with a blank between them. */
    String rules() {
        StringBuilder all = new StringBuilder();
        int count = ruleCount();
        for (int k = 0; k < count; k++) {
            all.append(k == 0 ? "" : " ").append(rule(k));
        }
        return all.toString();
    }

    /** All waiting equations, with a blank between them. */
    String waiting() {
        StringBuilder all = new StringBuilder();
        int count = waitingCount();
        for (int k = 0; k < count; k++) {
            all.append(k == 0 ? "" : " ").append(equationAt(k));
        }
        return all.toString();
    }

    /** All that can be seen but the draft: the state by name, the steps, the rules, the waiting equations. */
    String all() {
        return state() + " " + steps() + ": " + rules() + "; " + waiting();
    }

    /** No step is asked for, so this changes nothing. */
    String state() {
        String[] names = {"RUNNING", "DONE", "FAILED", "FULL"};
        return complete(0) instanceof Integer state ? names[state] : "?";
    }
}
