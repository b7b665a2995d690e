/** What the tests share: texts in and out of an object, calls that may throw, and the count of what is wrong. */
final class Checks {
    private static int wrong = 0;
    private static int made = 0;
    private static int sentences = 0;
    private static String sentence = "";

    private Checks() {
    }

    interface Call {
        Object answer();
    }

    interface Act {
        void run();
    }

    /** The checks from here on are of this sentence of the document, which is told when one is wrong. */
    static void sentence(String words) {
        sentences++;
        sentence = "\"" + words + "\" ";
    }

    static void due(String what, Object got, Object want) {
        made++;
        if (!want.equals(got)) {
            wrong++;
            System.out.println(sentence + what + ": got " + got + ", due is " + want);
        }
    }

    /** The answer of a call, or the plain name of what it throws. */
    static Object of(Call call) {
        try {
            return call.answer();
        } catch (RuntimeException e) {
            return e.getClass().getSimpleName();
        }
    }

    /** "done", or the plain name of what is thrown. */
    static Object of(Act act) {
        return of((Call) () -> {
            act.run();
            return "done";
        });
    }

    /** Ends the test: with exit code 1 if something was wrong. */
    static void end(String name) {
        String of = sentences > 0 ? " of " + sentences + " sentences" : "";
        System.out.println(name + ": " + made + " checks" + of + ", " + wrong + " wrong");
        if (wrong > 0 || made == 0) {
            System.exit(1);
        }
    }

    /** An object with these symbols, each given as its letter and its places. */
    static RuleCompletion with(String symbols) {
        RuleCompletion x = new RuleCompletion();
        for (int i = 0; i < symbols.length(); i += 2) {
            x.declare(symbols.charAt(i), symbols.charAt(i + 1) - '0');
        }
        return x;
    }

    static void text(RuleCompletion x, String text) {
        x.wipe();
        for (int i = 0; i < text.length(); i += 8) {
            long packed = 0;
            for (int j = 0; j < 8 && i + j < text.length(); j++) {
                packed |= (text.charAt(i + j) & 255L) << (8 * j);
            }
            x.write(packed);
        }
    }

    static Object equation(RuleCompletion x, String text) {
        text(x, text);
        return of(x::equation);
    }

    static void equations(RuleCompletion x, String... texts) {
        for (String text : texts) {
            due("equation " + text, equation(x, text) instanceof Integer, true);
        }
    }

    static Object compare(RuleCompletion x, String text) {
        text(x, text);
        return of(x::compare);
    }

    static Object complete(RuleCompletion x, int steps) {
        return of(() -> x.complete(steps));
    }

    /** The number of rewritings and the draft behind it, or what is thrown and the draft. */
    static String normalize(RuleCompletion x, String text) {
        text(x, text);
        return of(x::normalize) + " " + draft(x);
    }

    static String draft(RuleCompletion x) {
        StringBuilder text = new StringBuilder();
        for (int i = 0; x.draft(i) != 0; i++) {
            text.append(x.draft(i));
        }
        return text.toString();
    }

    private static String rule(RuleCompletion x, int k) {
        StringBuilder text = new StringBuilder();
        for (int i = 0; x.rule(k, i) != 0; i++) {
            text.append(x.rule(k, i));
        }
        return text.toString();
    }

    static String equationAt(RuleCompletion x, int k) {
        StringBuilder text = new StringBuilder();
        for (int i = 0; x.equationAt(k, i) != 0; i++) {
            text.append(x.equationAt(k, i));
        }
        return text.toString();
    }

    /** All rules, with a blank between them. */
    static String rules(RuleCompletion x) {
        StringBuilder all = new StringBuilder();
        for (int k = 0; k < x.rules(); k++) {
            all.append(k == 0 ? "" : " ").append(rule(x, k));
        }
        return all.toString();
    }

    /** All waiting equations, with a blank between them. */
    static String waiting(RuleCompletion x) {
        StringBuilder all = new StringBuilder();
        for (int k = 0; k < x.waiting(); k++) {
            all.append(k == 0 ? "" : " ").append(equationAt(x, k));
        }
        return all.toString();
    }
}
