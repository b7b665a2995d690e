/**
 * OUT OF BOUNDS wherever a term is brought to its normal form in a step: with 24 letters and with 25,
 * with forty rewritings and with forty-one, and what stays done when it is FULL there.
 */
public final class BoundsEdgeTest {
    /** Eleven letters of a and b, where b has two places: d becomes this. */
    private static final String ELEVEN = "ba".repeat(5) + "a";
    /** Twice that, with the b before it: 23 letters. */
    private static final String MANY = "b" + ELEVEN + ELEVEN;
    private static final String GROWING = "a0e1b2d0h1";

    /** By dcu>cdu, each rewriting brings one d behind one c: so many are needed as there are such two. */
    private static final String FORTY = "dddddcccccccca";
    private static final String FORTY_ONE = "dddddcccccccdca";
    private static final String FORTY_DONE = "ccccccccddddda";
    private static final String PASSING = "a0c1d1g1h1";

    public static void main(String[] args) {
        lettersInStep();
        rewritingsInStep();
        lettersInRightSide();
        rewritingsInRightSide();
        restOfRightSides();
        lettersInKept();
        rewritingsInKept();
        restOfKept();
        lettersInPairs();
        rewritingsInPairs();
        restOfPairs();
        firstCountsToo();
        veryLongPairs();
        Checks.end("BoundsEdgeTest");
    }

    /** What is to be seen when these equations have come, with a step behind each of them. */
    private static void due(String what, String symbols, String[] equations, String want) {
        Run x = new Run(symbols);
        x.ruleByRule(equations);
        Checks.due(what, x.all(), want);
    }

    private static String[] texts(String... all) {
        return all;
    }

    // ---- the sides of the equation that a step takes

    private static void lettersInStep() {
        Checks.sentence("Its sides are brought to their normal forms (FULL if one is out of bounds).");
        String rule = "d>" + ELEVEN;
        due("24 letters at the left", GROWING, texts("d=" + ELEVEN, "hbdd=a"), "DONE 2: " + rule + " h" + MANY + ">a; ");
        due("25 letters at the left", GROWING, texts("d=" + ELEVEN, "hebdd=a"), "FULL 2: " + rule + "; ");
        due("24 letters at the right", GROWING, texts("d=" + ELEVEN, "ha=ebdd"), "DONE 2: " + rule + " ha>e" + MANY + "; ");
        due("25 letters at the right", GROWING, texts("d=" + ELEVEN, "ha=eebdd"), "FULL 2: " + rule + "; ");
        due("24 letters, the same", GROWING, texts("d=" + ELEVEN, "ebdd=ebdd"), "DONE 2: " + rule + "; ");
        due("25 letters, the same", GROWING, texts("d=" + ELEVEN, "eebdd=eebdd"), "FULL 2: " + rule + "; ");
    }

    private static void rewritingsInStep() {
        Checks.sentence("Its sides are brought to their normal forms (FULL if one is out of bounds).");
        String rule = "dcu>cdu";
        due("40 at the left", PASSING, texts("dcx=cdx", "h" + FORTY + "=a"), "DONE 2: " + rule + " h" + FORTY_DONE + ">a; ");
        due("41 at the left", PASSING, texts("dcx=cdx", "h" + FORTY_ONE + "=a"), "FULL 2: " + rule + "; ");
        due("40 at the right", PASSING, texts("dcx=cdx", "ha=" + FORTY), "DONE 2: " + rule + " ha>" + FORTY_DONE + "; ");
        due("41 at the right", PASSING, texts("dcx=cdx", "ha=" + FORTY_ONE), "FULL 2: " + rule + "; ");
        // The two sides do not count together.
        due("40 at both", PASSING, texts("dcx=cdx", "h" + FORTY + "=" + FORTY),
                "DONE 2: " + rule + " h" + FORTY_DONE + ">" + FORTY_DONE + "; ");
    }

    // ---- the right sides of the other rules

    private static void lettersInRightSide() {
        Checks.sentence("The right side of each other rule, by rising numbers, becomes its normal form, and the rule is"
                + " renamed (FULL if it is out of bounds).");
        due("24 letters", GROWING, texts("ha=ebdd", "d=" + ELEVEN), "DONE 2: ha>e" + MANY + " d>" + ELEVEN + "; ");
        due("25 letters", GROWING, texts("ha=eebdd", "d=" + ELEVEN), "FULL 2: ha>eebdd d>" + ELEVEN + "; ");
    }

    private static void rewritingsInRightSide() {
        Checks.sentence("The right side of each other rule, by rising numbers, becomes its normal form, and the rule is"
                + " renamed (FULL if it is out of bounds).");
        due("40", PASSING, texts("ha=" + FORTY, "dcx=cdx"), "DONE 2: ha>" + FORTY_DONE + " dcu>cdu; ");
        due("41", PASSING, texts("ha=" + FORTY_ONE, "dcx=cdx"), "FULL 2: ha>" + FORTY_ONE + " dcu>cdu; ");
    }

    private static void restOfRightSides() {
        Checks.sentence("When it is FULL or FAILED in a step, what was done before that in the step stays done, the rest is"
                + " not done any more");
        String symbols = "a0e1b2d0f1g1h1";
        Run x = new Run(symbols);
        x.ruleByRule("ea=a", "hd=a", "fa=d", "ga=eebdd", "ha=d");
        Checks.due("five rules", x.rules(), "ea>a hd>a fa>d ga>eebdd ha>d");
        x.ruleByRule("d=" + ELEVEN);
        // hd > a was taken away and is gone; fa > d is done, ga > eebdd too long, ha > d not reached.
        Checks.due("out of bounds in the middle", x.all(),
                "FULL 6: ea>a fa>" + ELEVEN + " ga>eebdd ha>d d>" + ELEVEN + "; ");
        Run y = new Run(symbols);
        y.ruleByRule("ea=a", "hd=a", "fa=d", "ga=ebdd", "ha=d");
        y.ruleByRule("d=" + ELEVEN);
        Checks.due("inside of them all", y.all(), "RUNNING 6: ea>a fa>" + ELEVEN + " ga>e" + MANY + " ha>" + ELEVEN + " d>"
                + ELEVEN + "; h" + ELEVEN + "=a");
    }

    // ---- the pairs that were kept

    private static void lettersInKept() {
        Checks.sentence("It is FULL if a side is out of bounds");
        due("24 letters at the left", GROWING, texts("hbdd=a", "d=" + ELEVEN),
                "RUNNING 2: d>" + ELEVEN + "; h" + MANY + "=a");
        due("25 letters at the left", GROWING, texts("hebdd=a", "d=" + ELEVEN), "FULL 2: d>" + ELEVEN + "; ");
        due("24 letters at the right", GROWING, texts("hd=ebdd", "d=" + ELEVEN),
                "RUNNING 2: d>" + ELEVEN + "; h" + ELEVEN + "=e" + MANY);
        due("25 letters at the right", GROWING, texts("hd=eebdd", "d=" + ELEVEN), "FULL 2: d>" + ELEVEN + "; ");
    }

    private static void rewritingsInKept() {
        Checks.sentence("It is FULL if a side is out of bounds");
        due("40 at the left", PASSING, texts("h" + FORTY + "=a", "dcx=cdx"), "RUNNING 2: dcu>cdu; h" + FORTY_DONE + "=a");
        due("41 at the left", PASSING, texts("h" + FORTY_ONE + "=a", "dcx=cdx"), "FULL 2: dcu>cdu; ");
        due("40 at the right", PASSING, texts("hdca=" + FORTY, "dcx=cdx"), "RUNNING 2: dcu>cdu; hcda=" + FORTY_DONE);
        due("41 at the right", PASSING, texts("hdca=" + FORTY_ONE, "dcx=cdx"), "FULL 2: dcu>cdu; ");
    }

    private static void restOfKept() {
        Checks.sentence("(the equation, or pair, that was at hand is gone, as are pairs that were kept for 4 and have not been"
                + " added yet)");
        String symbols = "a0e1b2d0f1g1h1";
        Run x = new Run(symbols);
        x.ruleByRule("fd=a", "gebdd=a", "hd=a", "ffa=a");
        Checks.due("four rules", x.rules(), "fd>a gebdd>a hd>a ffa>a");
        Checks.due("one that waits", x.equation("gggggggggggga=ffffffa"), 1);
        Checks.due("a step", x.equation("d=" + ELEVEN) + " " + x.complete(1), "2 3");
        // Three are kept: the first one comes, the second one is too long, the third one is gone.
        Checks.due("out of bounds in the middle", x.all(),
                "FULL 5: ffa>a d>" + ELEVEN + "; gggggggggggga=ffffffa f" + ELEVEN + "=a");
        Run y = new Run(symbols);
        y.ruleByRule("fd=a", "gbdd=a", "hd=a", "ffa=a", "d=" + ELEVEN);
        Checks.due("inside of them all", y.all(), "RUNNING 5: ffa>a d>" + ELEVEN + "; f" + ELEVEN + "=a g" + MANY + "=a h"
                + ELEVEN + "=a");
    }

    // ---- the pairs of rules on rules

    private static void lettersInPairs() {
        Checks.sentence("It is FULL if a side is out of bounds");
        String symbols = "a0e1b2c1d1g1h1";
        String tree = "ba".repeat(11) + "a";
        due("24 letters at the left, the new rule on the other one", symbols, texts("dcx=x", "ca=" + tree),
                "RUNNING 2: dcu>u ca>" + tree + "; d" + tree + "=a");
        due("25 letters at the left, the new rule on the other one", symbols, texts("dcx=x", "ca=e" + tree),
                "FULL 2: dcu>u ca>e" + tree + "; ");
        due("24 letters at the left, the other one on the new rule", symbols, texts("ca=" + tree, "dcx=x"),
                "RUNNING 2: ca>" + tree + " dcu>u; d" + tree + "=a");
        due("25 letters at the left, the other one on the new rule", symbols, texts("ca=e" + tree, "dcx=x"),
                "FULL 2: ca>e" + tree + " dcu>u; ");
        due("24 letters at the right, the new rule on the other one", symbols, texts("hgx=ebxx", "g" + ELEVEN + "=a"),
                "RUNNING 2: hgu>ebuu g" + ELEVEN + ">a; ha=e" + MANY);
        due("25 letters at the right, the new rule on the other one", symbols, texts("hgx=eebxx", "g" + ELEVEN + "=a"),
                "FULL 2: hgu>eebuu g" + ELEVEN + ">a; ");
        due("24 letters at the right, the other one on the new rule", symbols, texts("g" + ELEVEN + "=a", "hgx=ebxx"),
                "RUNNING 2: g" + ELEVEN + ">a hgu>ebuu; ha=e" + MANY);
        due("25 letters at the right, the other one on the new rule", symbols, texts("g" + ELEVEN + "=a", "hgx=eebxx"),
                "FULL 2: g" + ELEVEN + ">a hgu>eebuu; ");
    }

    private static void rewritingsInPairs() {
        Checks.sentence("It is FULL if a side is out of bounds");
        String eight = "cccccccca";
        due("40 at the left", PASSING, texts("dcx=cdx", "dddddgx=x", "ga=" + eight),
                "RUNNING 3: dcu>cdu dddddgu>u ga>" + eight + "; " + FORTY_DONE + "=a");
        due("41 at the left", PASSING, texts("dcx=cdx", "ddddda=a", "dddddgx=x", "ga=" + eight),
                "FULL 4: dcu>cdu ddddda>a dddddgu>u ga>" + eight + "; ");
        due("40 at the right", PASSING, texts("dcx=cdx", "hgx=dddddx", "g" + eight + "=a"),
                "RUNNING 3: dcu>cdu hgu>dddddu g" + eight + ">a; ha=" + FORTY_DONE);
        due("41 at the right", PASSING, texts("dcx=cdx", "ddddda=a", "hgx=dddddx", "g" + eight + "=a"),
                "FULL 4: dcu>cdu ddddda>a hgu>dddddu g" + eight + ">a; ");
    }

    private static void restOfPairs() {
        Checks.sentence("When it is FULL or FAILED in a step, what was done before that in the step stays done, the rest is"
                + " not done any more");
        String symbols = "a0e1b2g1d1f1h1";
        // The new rule has a pair with each of the three others.
        due("out of bounds in the middle", symbols, texts("fgx=x", "hgx=eebxx", "dgx=x", "g" + ELEVEN + "=a"),
                "FULL 4: fgu>u hgu>eebuu dgu>u g" + ELEVEN + ">a; fa=" + ELEVEN);
        due("inside of them all", symbols, texts("fgx=x", "hgx=ebxx", "dgx=x", "g" + ELEVEN + "=a"),
                "RUNNING 4: fgu>u hgu>ebuu dgu>u g" + ELEVEN + ">a; fa=" + ELEVEN + " ha=e" + MANY + " da=" + ELEVEN);
    }

    private static void firstCountsToo() {
        Checks.sentence("(the first one counts too)");
        String tree = "ba".repeat(10) + "a";
        // The rule deu > u makes the left side of the pair shorter at once, by two letters.
        due("24 letters before the first rewriting", "a0e1b2c1d1", texts("dcx=x", "dex=x", "ca=ee" + tree),
                "RUNNING 3: dcu>u deu>u ca>ee" + tree + "; e" + tree + "=a");
        due("25 letters before the first rewriting", "a0e1b2c1d1", texts("dcx=x", "dex=x", "ca=eee" + tree),
                "FULL 3: dcu>u deu>u ca>eee" + tree + "; ");
    }

    /** What is put for the variables doubles from one to the next: it ends, and is out of bounds. */
    private static void veryLongPairs() {
        Checks.sentence("if a term with more than 24 letters comes up");
        String doubling = "cbuucvcbvvcwcbwwcxcbxxy";
        Run x = new Run("a0b2c2h1");
        x.ruleByRule("hcucucvcvcwcwcxy=w", doubling + "=a");
        Checks.due("15 letters", x.equationAt(0), "ha=bbbuubuubbuubuu");
        Run y = new Run("a0b2c2h1");
        y.ruleByRule("hcucucvcvcwcwcxy=x", doubling + "=a");
        Checks.due("31 letters", y.all(), "FULL 2: hcucucvcvcwcwcxy>x " + doubling + ">a; ");
    }
}
