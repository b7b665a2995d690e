/**
 * The section "Terms" up to OUT OF BOUNDS, sentence by sentence: the last input that is still inside
 * of what the sentence says and the first one that is outside, with answers found by hand.
 */
public final class TermsEdgeTest {
    private static final String ARGUMENT = "IllegalArgumentException";
    private static final String UNSUPPORTED = "UnsupportedOperationException";
    private static final int BELOW = -1;
    private static final int SAME = 0;
    private static final int ABOVE = 1;
    private static final int NEITHER = 2;

    /** Eleven letters of a and b, where b has two places. */
    private static final String ELEVEN = "ba".repeat(5) + "a";

    public static void main(String[] args) {
        variables();
        symbols();
        places();
        greater();
        sameTexts();
        renamed();
        aboveVariable();
        aboveByTerm();
        aboveAllTerms();
        aboveByGreaterSymbol();
        aboveInFirstDifference();
        firstLetter();
        leastNumber();
        instance();
        replaced();
        normalForm();
        tooManyLetters();
        tooManyRewritings();
        Checks.end("TermsEdgeTest");
    }

    private static void variables() {
        Checks.sentence("VARIABLES are the letters u .. z.");
        Run x = new Run("a0f2");
        Checks.due("u", x.normalize("u"), "0 u");
        Checks.due("z", x.normalize("z"), "0 z");
        Checks.due("t", x.normalize("t"), ARGUMENT + " t");
        Checks.due("{", x.normalize("{"), ARGUMENT + " {");
        Checks.due("U", x.normalize("U"), ARGUMENT + " U");
        Checks.due("u and 128", x.normalize("\u00f5"), ARGUMENT + " \u00f5");
        Checks.due("all six in an equation", x.equation("fufvfwfxfyz=a"), 1);
        Checks.due("one of seven is none", x.equation("ftfufvfwfxfyz=a"), ARGUMENT);
        Checks.due("one came", x.waiting(), "fufvfwfxfyz=a");
    }

    private static void symbols() {
        Checks.sentence("SYMBOLS are those of the letters a .. h that were declared");
        Run x = new Run("a0h0");
        Checks.due("a", x.normalize("a"), "0 a");
        Checks.due("h", x.normalize("h"), "0 h");
        Checks.due("g before it is declared", x.normalize("g"), ARGUMENT + " g");
        Checks.due("declared", x.declare('g', 0), "done");
        Checks.due("g then", x.normalize("g"), "0 g");
        Checks.due("before a", x.normalize("`"), ARGUMENT + " `");
        Checks.due("behind h", x.normalize("i"), ARGUMENT + " i");
        Checks.due("a and 128", x.normalize("\u00e1"), ARGUMENT + " \u00e1");
    }

    private static void places() {
        Checks.sentence("A TERM is a variable, or a symbol with as many terms as it has places");
        Run x = new Run("a0b1f2");
        String[] terms = {"x", "a", "ba", "bx", "faa", "fxy", "fbafaa", "bbfaba"};
        for (String text : terms) {
            Checks.due("a term", x.normalize(text), "0 " + text);
        }
        String[] none = {"", "xx", "xa", "ax", "aa", "b", "baa", "bb", "f", "fa", "faaa", "fba", "fbafaaa", "bbfab", "af", "xf"};
        for (String text : none) {
            Checks.due("no term", x.normalize(text), ARGUMENT + " " + text);
        }
    }

    private static void greater() {
        Checks.sentence("one that was declared later is GREATER");
        Run x = new Run("h0a0d0");
        Checks.due("the second and the first", x.compare("a=h"), ABOVE);
        Checks.due("the first and the second", x.compare("h=a"), BELOW);
        Checks.due("the third and the second", x.compare("d=a"), ABOVE);
        Checks.due("one and itself", x.compare("d=d"), SAME);
        Checks.due("declared again", x.declare('h', 0), "IllegalStateException");
        Checks.due("no later for that", x.compare("h=a"), BELOW);
        Checks.due("one more", x.declare('b', 0), "done");
        Checks.due("it is the greatest", x.compare("b=d"), ABOVE);
        x.clear();
        Checks.due("declared behind clear", x.declare('c', 0), "done");
        Checks.due("greater than those before", x.compare("c=b"), ABOVE);
    }

    private static void sameTexts() {
        Checks.sentence("Two terms are the same if their texts are.");
        Run x = new Run("a0c0b1");
        String most = "b".repeat(23);
        Checks.due("24 letters", x.compare(most + "a=" + most + "a"), SAME);
        Checks.due("another last letter", x.compare(most + "a=" + most + "c"), BELOW);
        Checks.due("one letter less", x.compare(most + "a=" + most.substring(1) + "a"), ABOVE);
        Checks.due("one letter", x.compare("x=x"), SAME);
        Checks.due("another variable", x.compare("x=y"), NEITHER);
        x.ruleByRule("bx=bx");
        Checks.due("a step with the same sides", x.all(), "DONE 1: ; ");
        x.ruleByRule("bx=by");
        Checks.due("a step with others", x.all(), "FAILED 2: ; ");
    }

    private static void renamed() {
        Checks.sentence("it is RENAMED by putting u, v, w, .. for its variables, in the order in which they first come"
                + " in the left one's text, then in the right one's");
        Run x = new Run("a0f2");
        String[][] due = {
            {"a=a", "a=a"}, {"z=z", "u=u"}, {"z=y", "u=v"}, {"u=v", "u=v"}, {"v=u", "u=v"}, {"a=fzy", "a=fuv"},
            {"fzy=fyz", "fuv=fvu"}, {"fzz=fyz", "fuu=fvu"}, {"z=fyfzx", "u=fvfuw"},
            {"fuv=fwfxfyz", "fuv=fwfxfyz"}, {"fzy=fxfwfvu", "fuv=fwfxfyz"}, {"fzfyfxfwfvu=fuz", "fufvfwfxfyz=fzu"},
        };
        for (int k = 0; k < due.length; k++) {
            Checks.due("equation " + due[k][0], x.equation(due[k][0]), k + 1);
            Checks.due("renamed " + due[k][0], x.equationAt(k), due[k][1]);
        }
        Run y = new Run("a0g2f2");
        y.ruleByRule("gxfzy=fzfyx");
        Checks.due("the sides are exchanged before a rule is renamed", y.rules(), "fufvw>gwfuv");
    }

    // ---- the order, with a, b of no place, g of one, f, h of two

    private static void compareAll(Object[][] due) {
        Run x = new Run("a0b0g1f2h2");
        for (Object[] row : due) {
            Checks.due(row[0].toString(), x.compare(row[0].toString()), row[1]);
        }
    }

    private static void aboveVariable() {
        Checks.sentence("t is a variable that comes in s, and s is not t");
        compareAll(new Object[][] {
            {"gx=x", ABOVE}, {"x=gx", BELOW}, {"x=x", SAME}, {"gx=y", NEITHER}, {"y=gx", NEITHER}, {"x=y", NEITHER},
            {"fax=x", ABOVE}, {"fxa=x", ABOVE}, {"hagfgax=x", ABOVE}, {"hagfgax=y", NEITHER}, {"x=a", NEITHER},
            {"x=hab", NEITHER}, {"g".repeat(23) + "x=x", ABOVE}, {"g".repeat(23) + "x=z", NEITHER},
        });
    }

    private static void aboveByTerm() {
        Checks.sentence("s is a symbol with terms s1 .. , and one of them is t or above t");
        compareAll(new Object[][] {
            // One of them is t; t begins with a greater symbol, so that nothing else makes it so.
            {"gfab=fab", ABOVE}, {"fhaba=hab", ABOVE}, {"fahab=hab", ABOVE},
            // One of them is above t.
            {"gfab=faa", ABOVE}, {"fhaba=haa", ABOVE}, {"fahab=haa", ABOVE}, {"ggfab=fab", ABOVE}, {"gfgxy=fxy", ABOVE},
            // None is t or above t.
            {"gfaa=fab", BELOW}, {"fhaaa=hab", BELOW}, {"fahaa=hab", BELOW}, {"gfxy=fyx", NEITHER}, {"gfxx=fxy", NEITHER},
        });
    }

    private static void aboveAllTerms() {
        Checks.sentence("s is above all of t1 ..");
        compareAll(new Object[][] {
            {"fab=gfaa", ABOVE}, {"fab=gfab", BELOW}, {"fab=ghaa", BELOW},
            {"hab=fahaa", ABOVE}, {"hab=fahab", BELOW}, {"hab=fahba", BELOW},
            {"hab=fhaaa", ABOVE}, {"hab=fhaba", BELOW}, {"hab=fhbaa", BELOW},
            {"hxy=fxy", ABOVE}, {"hxy=fxz", NEITHER}, {"hxy=fzy", NEITHER}, {"hxy=ffxyx", ABOVE}, {"hxy=ffxzx", NEITHER},
            // The same symbol: its first terms would do, but for this.
            {"fba=fafaa", ABOVE}, {"fba=fahaa", BELOW}, {"fgxy=fxfxy", ABOVE}, {"fgxy=fxz", NEITHER},
            {"fgxy=fxgfgxy", BELOW}, {"hgxy=hxhxy", ABOVE}, {"hgxy=hxhxz", NEITHER},
        });
    }

    private static void aboveByGreaterSymbol() {
        Checks.sentence("either f is greater than g");
        compareAll(new Object[][] {
            {"b=a", ABOVE}, {"a=b", BELOW}, {"a=a", SAME}, {"ga=b", ABOVE}, {"b=ga", BELOW}, {"gx=b", ABOVE},
            {"faa=gggggb", ABOVE}, {"gggggb=faa", BELOW}, {"hxy=fyx", ABOVE}, {"fxy=hyx", BELOW}, {"fxy=gx", ABOVE},
            {"gx=fxy", BELOW}, {"gx=fxx", BELOW}, {"gx=fyy", NEITHER},
        });
    }

    private static void aboveInFirstDifference() {
        Checks.sentence("or they are the same and in the first place where they differ, s1 and t1, or else s2 and t2,"
                + " the one of s is above the one of t");
        compareAll(new Object[][] {
            {"gb=ga", ABOVE}, {"ga=gb", BELOW}, {"gx=gy", NEITHER}, {"ga=ga", SAME},
            // The first terms differ: the second ones do not matter.
            {"fba=fab", ABOVE}, {"fab=fba", BELOW}, {"fgxx=fxgx", ABOVE}, {"fxgx=fgxx", BELOW}, {"ffxyz=fxfyz", ABOVE},
            {"fxgy=fyy", NEITHER}, {"fxy=fyx", NEITHER}, {"fagx=fxx", NEITHER}, {"fxb=faa", NEITHER},
            // The first terms are the same: the second ones decide.
            {"fab=faa", ABOVE}, {"faa=fab", BELOW}, {"fxgy=fxy", ABOVE}, {"fxy=fxz", NEITHER}, {"fxy=fxy", SAME},
        });
    }

    // ---- rewriting

    private static void firstLetter() {
        Checks.sentence("A term is REWRITTEN at the first letter at which the subterm that begins there is an INSTANCE"
                + " of the left side of some rule");
        Run x = new Run("a0b0g1f2");
        x.ruleByRule("ga=a", "fxa=b");
        Checks.due("the rules", x.rules(), "ga>a fua>b");
        Checks.due("letter 0 by rule 1 before letter 1 by rule 0", x.normalize("fgaa"), "1 b");
        Checks.due("no instance at letter 0, but at letter 2", x.normalize("fbga"), "2 b");
        Checks.due("no instance at letter 0, but at letter 1", x.normalize("fgab"), "1 fab");
        Checks.due("no instance at all", x.normalize("fagb"), "0 fagb");
        Run y = new Run("a0b0g1");
        y.ruleByRule("b=a");
        String most = "g".repeat(23);
        Checks.due("the last of 24 letters", y.normalize(most + "b"), "1 " + most + "a");
        Checks.due("none of 24 letters", y.normalize(most + "a"), "0 " + most + "a");
        Run z = new Run("a0b2d0g1f2");
        String nineteen = "ba".repeat(9) + "a";
        z.ruleByRule("gx=a", "d=" + nineteen);
        Checks.due("what stands before gets shorter first", z.normalize("fgggggad"), "2 fa" + nineteen);
        Checks.due("what stands before gets longer first: 24", z.normalize("fdggga"), "2 f" + nineteen + "a");
        Checks.due("what stands before gets longer first: 25", z.normalize("fdgggga"), UNSUPPORTED + " fdgggga");
    }

    private static void leastNumber() {
        Checks.sentence("by the rule with the least number of those");
        Run x = new Run("b0a0f2");
        x.ruleByRule("fax=x", "fxa=b");
        Checks.due("the rules", x.rules(), "fau>u fua>b");
        Checks.due("both fit: rule 0", x.normalize("faa"), "1 a");
        Checks.due("rule 1 fits", x.normalize("fba"), "1 b");
        Checks.due("rule 0 fits", x.normalize("fab"), "1 b");
        Run y = new Run("b0a0f2");
        y.ruleByRule("fxa=b", "fax=x");
        Checks.due("the other way round", y.rules(), "fua>b fau>u");
        Checks.due("both fit: rule 0 again", y.normalize("faa"), "1 b");
    }

    private static void instance() {
        Checks.sentence("(comes of it by putting terms for its variables, the same for the same ones)");
        Run x = new Run("a0b1f2");
        x.ruleByRule("fxx=x");
        Checks.due("the same", x.normalize("fbzbz"), "1 bz");
        Checks.due("another last letter", x.normalize("fbzby"), "0 fbzby");
        Checks.due("one letter more", x.normalize("fbzbbz"), "0 fbzbbz");
        Checks.due("one letter less", x.normalize("fbzz"), "0 fbzz");
        String eleven = "b".repeat(10) + "a";
        Checks.due("long ones", x.normalize("f" + eleven + eleven), "1 " + eleven);
        Run y = new Run("a0b1f2");
        y.ruleByRule("fax=x");
        Checks.due("a symbol for itself", y.normalize("faz"), "1 z");
        Checks.due("a variable is not a symbol", y.normalize("fxz"), "0 fxz");
        Checks.due("nor is another symbol", y.normalize("fbaz"), "0 fbaz");
        Checks.due("a variable for a variable", y.normalize("fau"), "1 u");
    }

    private static void replaced() {
        Checks.sentence("the subterm is replaced by the right side with the same terms put for variables");
        Run x = new Run("a0f2h2");
        x.ruleByRule("hxy=fyx");
        Checks.due("the rule", x.rules(), "huv>fvu");
        Checks.due("names as in the rule", x.normalize("huv"), "1 fvu");
        Checks.due("the same names, exchanged", x.normalize("hvu"), "1 fuv");
        Checks.due("one in the other", x.normalize("hvhuv"), "2 ffvuv");
        Checks.due("what stands round it stays", x.normalize("fahxy"), "1 fafyx");
        Checks.due("what stands behind it stays", x.normalize("fhxyz"), "1 ffyxz");
        Run y = new Run("a0b1f2");
        y.ruleByRule("fxy=a");
        Checks.due("nothing is left of it", y.normalize("bfbzbbz"), "1 ba");
    }

    private static void normalForm() {
        Checks.sentence("Its NORMAL FORM is what comes of rewriting it until this can't be done any more.");
        Run x = new Run("a0b1c1");
        Checks.due("no rules", x.normalize("bca"), "0 bca");
        x.ruleByRule("cx=bx");
        Checks.due("none to do", x.normalize("bba"), "0 bba");
        Checks.due("one", x.normalize("bca"), "1 bba");
        Checks.due("all of them", x.normalize("c".repeat(23) + "z"), "23 " + "b".repeat(23) + "z");
        Checks.due("again: none", x.normalize() + " " + x.draft(), "0 " + "b".repeat(23) + "z");
    }

    private static void tooManyLetters() {
        Checks.sentence("It is OUT OF BOUNDS if a term with more than 24 letters comes up");
        Run x = new Run("a0e1b2c1h2");
        x.ruleByRule("hxy=a", "cx=bxx");
        Checks.due("the rules", x.rules(), "huv>a cu>buu");
        Checks.due("24 letters at last", x.normalize("ec" + ELEVEN), "1 eb" + ELEVEN + ELEVEN);
        Checks.due("25 letters", x.normalize("eec" + ELEVEN), UNSUPPORTED + " eec" + ELEVEN);
        // Eleven letters that come twice before they become a.
        String soon = "hbababaabaa";
        Checks.due("24 letters in between", x.normalize("ec" + soon), "3 ebaa");
        Checks.due("25 letters in between", x.normalize("eec" + soon), UNSUPPORTED + " eec" + soon);
        Checks.due("24 letters at first", x.normalize("h" + ELEVEN + "e" + ELEVEN), "1 a");
        Checks.due("25 letters at first are no draft for it", x.normalize("h" + ELEVEN + "ee" + ELEVEN),
                ARGUMENT + " h" + ELEVEN + "ee" + ELEVEN);
        Checks.due("all else stays", x.all(), "DONE 2: huv>a cu>buu; ");
    }

    private static void tooManyRewritings() {
        Checks.sentence("or a fortieth rewriting is not the last one");
        Run x = new Run("a0c1d1");
        x.ruleByRule("dcx=cdx");
        // Each rewriting brings one d behind one c, so as many are needed as there are such two.
        Checks.due("39", x.normalize("ddd" + "c".repeat(13) + "a"), "39 " + "c".repeat(13) + "ddda");
        Checks.due("40", x.normalize("dddddcccccccca"), "40 ccccccccddddda");
        Checks.due("41", x.normalize("dddddcccccccdca"), UNSUPPORTED + " dddddcccccccdca");
        Checks.due("41 again, the draft stays", x.normalize() + " " + x.draft(), UNSUPPORTED + " dddddcccccccdca");
        Checks.due("40 of 24 letters", x.normalize("c".repeat(10) + "dddddcccccccca"),
                "40 " + "c".repeat(18) + "ddddda");
        Checks.due("many more", x.normalize("d".repeat(11) + "c".repeat(12) + "a"),
                UNSUPPORTED + " " + "d".repeat(11) + "c".repeat(12) + "a");
        Checks.due("all else stays", x.all(), "DONE 1: dcu>cdu; ");
    }
}
