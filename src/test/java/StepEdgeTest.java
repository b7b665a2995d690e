/**
 * The section "Terms" from WAITING on, sentence by sentence: the last input that is still inside of
 * what the sentence says and the first one that is outside, and what is to be seen behind it. When a
 * side is out of bounds in a step: see BoundsEdgeTest.
 */
public final class StepEdgeTest {
    private static final String STATE = "IllegalStateException";

    public static void main(String[] args) {
        waitingAtMost();
        waitingAtMostByKept();
        waitingInOrder();
        addSame();
        addThereAlready();
        addThereExchanged();
        addRenamed();
        sixVariables();
        sevenVariablesBefore();
        fewestLetters();
        stepSame();
        stepFailed();
        fourteenRules();
        notByFourteenRules();
        takenAway();
        takenAwayInOrder();
        numberedAnew();
        rightSides();
        keptBeforePairs();
        pairsInOrder();
        pairsByLetters();
        pairsAtFirstLetter();
        pairsOfItself();
        pairsThatFit();
        pairsMostGeneral();
        pairsSides();
        fullStays();
        failedStays();
        Checks.end("StepEdgeTest");
    }

    /** What is to be seen when these equations have come, with a step behind each of them. */
    private static void due(String what, String symbols, String[] equations, String want) {
        Run x = new Run(symbols);
        x.ruleByRule(equations);
        Checks.due(what, x.all(), want);
    }

    private static String[] texts(String... all) {
        return all;
    }

    /** The number of waiting equations and the last one of them. */
    private static String last(Run x) {
        int count = x.waitingCount();
        return count + " " + x.equationAt(count - 1);
    }

    // ---- WAITING, and to ADD

    private static void waitingAtMost() {
        Checks.sentence("if it would come when 48 are waiting");
        Run x = new Run("a0b1c1");
        Checks.due("it comes", x.equation("bbx=a"), 1);
        x.waitFor("cccccca=ca", 47);
        // The rule has one pair on itself.
        Checks.due("one pair, when 47 are waiting", x.complete(1), 0);
        Checks.due("it came", last(x), "48 ba=a");
        Checks.due("the rule", x.rules(), "bbu>a");
        Run y = new Run("a0b1c1");
        Checks.due("it comes", y.equation("bbbx=a"), 1);
        y.waitFor("cccccca=ca", 47);
        // The rule has two pairs on itself, (ba, a) and (bba, a).
        Checks.due("a second pair, when 48 are waiting", y.complete(1), 3);
        Checks.due("the first one came", last(y), "48 ba=a");
        Checks.due("the rule stays", y.rules() + " " + y.steps(), "bbbu>a 1");
    }

    private static void waitingAtMostByKept() {
        Checks.sentence("if it would come when 48 are waiting");
        Run x = new Run("a0b1c1d1e1");
        x.ruleByRule("cba=a");
        Checks.due("it comes", x.equation("bx=x"), 1);
        x.waitFor("eeeeeea=ea", 47);
        Checks.due("one kept pair, when 47 are waiting", x.complete(1), 0);
        Checks.due("it came", last(x), "48 ca=a");
        Run y = new Run("a0b1c1d1e1");
        y.ruleByRule("cba=a", "dba=a");
        Checks.due("it comes", y.equation("bx=x"), 1);
        y.waitFor("eeeeeea=ea", 47);
        Checks.due("a second kept pair, when 48 are waiting", y.complete(1), 3);
        Checks.due("the first one came", last(y), "48 ca=a");
        Checks.due("both rules are gone", y.rules() + " " + y.steps(), "bu>u 3");
    }

    private static void waitingInOrder() {
        Checks.sentence("renamed pairs, in the order in which they came");
        Run x = new Run("a0b1c1");
        Checks.due("first", x.equation("ccccx=ca"), 1);
        Checks.due("second", x.equation("bbbz=a"), 2);
        Checks.due("third", x.equation("ccca=ba"), 3);
        Checks.due("a step takes the second", x.complete(1), 0);
        Checks.due("those that came in the step are behind", x.waiting(), "ccccu=ca ccca=ba ba=a bba=a");
        Checks.due("one more", x.equation("cccca=a"), 5);
        Checks.due("behind them", x.equationAt(4), "cccca=a");
    }

    private static void addSame() {
        Checks.sentence("if they are the same now, that is all");
        due("not the same", "a0b1d1", texts("dbda=da", "bx=x"), "RUNNING 2: bu>u; dda=da");
        due("the same", "a0b1d1", texts("dbda=dda", "bx=x"), "DONE 2: bu>u; ");
        Run x = new Run("a0b1c1d1e1");
        x.ruleByRule("cba=a", "dbda=dda");
        Checks.due("it comes", x.equation("bx=x"), 1);
        x.waitFor("eeeeeea=ea", 47);
        Checks.due("the same, when 48 are waiting", x.complete(1), 0);
        Checks.due("the one before came", last(x), "48 ca=a");
        // Both sides become the same term with seven variables.
        due("the same, with seven variables", "f2g2", texts("gufvfwx=fufvfwx", "gfufvfwxy=ffufvfwxy"),
                "DONE 2: gufvfwx>fufvfwx gfufvfwxy>ffufvfwxy; ");
    }

    private static void addThereAlready() {
        Checks.sentence("unless it is there already");
        Run x = new Run("a0b1c1d1e1");
        x.ruleByRule("cba=a", "dba=a");
        Checks.due("it comes", x.equation("bx=x"), 1);
        Checks.due("the same as a pair that will come", x.equation("da=a"), 2);
        x.waitFor("eeeeeea=ea", 46);
        Checks.due("there already, when 48 are waiting", x.complete(1), 0);
        Checks.due("the one before came", last(x), "48 ca=a");
        Run y = new Run("a0b1c1d1");
        y.ruleByRule("cba=a");
        Checks.due("it comes", y.equation("bx=x"), 1);
        Checks.due("another right side", y.equation("ca=ba"), 2);
        Checks.due("another left side", y.equation("da=a"), 3);
        Checks.due("neither of them is the pair", y.complete(1) + " " + y.waiting(), "0 ca=ba da=a ca=a");
        y.clear();
        y.ruleByRule("cba=a", "dba=a");
        Checks.due("it comes", y.equation("bx=x"), 1);
        Checks.due("the same as the first of two pairs", y.equation("ca=a"), 2);
        Checks.due("the second one comes", y.complete(1) + " " + y.waiting(), "0 ca=a da=a");
        y.clear();
        y.ruleByRule("cba=a", "cbba=a");
        Checks.due("two rules", y.rules(), "cba>a cbba>a");
        y.ruleByRule("bx=x");
        Checks.due("the second of two pairs is the first one", y.waiting(), "ca=a");
    }

    private static void addThereExchanged() {
        Checks.sentence("or is with its sides exchanged (and renamed)");
        Run x = new Run("a0b1c1d1e1");
        x.ruleByRule("cba=a", "dba=a");
        Checks.due("it comes", x.equation("bx=x"), 1);
        Checks.due("a pair that will come, exchanged", x.equation("a=da"), 2);
        x.waitFor("eeeeeea=ea", 46);
        Checks.due("there exchanged, when 48 are waiting", x.complete(1), 0);
        Checks.due("the one before came", last(x), "48 ca=a");
        // The new rule on the other one has the pair (gucv, fvcu), this one on the new rule (fucv, gvcu).
        String symbols = "c1f2g2h2";
        Run y = new Run(symbols);
        y.ruleByRule("hcxy=fxy");
        Checks.due("it comes", y.equation("hxcy=gyx"), 1);
        Checks.due("exchanged, it has other names", y.equation("fxcy=gycx"), 2);
        Checks.due("none comes", y.complete(1) + " " + y.waiting(), "0 fucv=gvcu");
        due("the second pair is the first one exchanged", symbols, texts("hcxy=fxy", "hxcy=gyx"),
                "RUNNING 2: hcuv>fuv hucv>gvu; gucv=fvcu");
        Run z = new Run(symbols);
        z.ruleByRule("hcxy=fxy");
        Checks.due("it comes", z.equation("hxcy=gyx"), 1);
        Checks.due("another one", z.equation("fxcy=gxcy"), 2);
        Checks.due("one comes", z.complete(1) + " " + z.waiting(), "0 fucv=gucv gucv=fvcu");
    }

    private static void addRenamed() {
        Checks.sentence("else it is renamed, and comes behind the others");
        due("renamed behind its normal form", "a0b1f2g2", texts("gfxyfbyz=fzy", "bx=x"),
                "RUNNING 2: bu>u; gfuvfvw=fwv");
        // Its normal form has lost the first variable.
        due("what is lost is not named", "a0b1f2g2h2", texts("hgxyz=fzy", "gxy=y"),
                "RUNNING 2: guv>v; huv=fvu");
    }

    private static void sixVariables() {
        Checks.sentence("if the renamed pair would have more than six variables");
        // The two have a pair at the first letter; 4 variables of the one and 3 of the other are left, or 3 and 3.
        due("six", "f2g2", texts("gfufvwx=u", "gufvfwx=fufvfwx"),
                "RUNNING 2: gfufvwx>u gufvfwx>fufvfwx; ffufvwfxfyz=u");
        due("seven", "f2g2", texts("gfufvfwxy=u", "gufvfwx=fufvfwx"),
                "FULL 2: gfufvfwxy>u gufvfwx>fufvfwx; ");
    }

    private static void sevenVariablesBefore() {
        Checks.sentence("if the renamed pair would have more than six variables");
        // The left side of the pair has seven of them, and one less when hfuvw > fvw has rewritten it.
        due("six, but seven before", "a0f2h2g2", texts("hfuvw=fvw", "gfufvfwxy=a", "gufvfwx=ffhuvwx"),
                "RUNNING 3: hfuvw>fvw gfufvfwxy>a gufvfwx>ffhuvwx; ffffufvwxyz=a");
        due("seven, and seven before", "a0f2h2g2", texts("hfuvw=ffvuw", "gfufvfwxy=a", "gufvfwx=ffhuvwx"),
                "FULL 3: hfuvw>ffvuw gfufvfwxy>a gufvfwx>ffhuvwx; ");
    }

    // ---- a STEP

    private static void fewestLetters() {
        Checks.sentence("of the waiting equations that with the fewest letters (both sides together), of several the one that"
                + " came first, is taken away");
        Run x = new Run("a0b1c1");
        Checks.due("four and one", x.equation("bbba=a"), 1);
        Checks.due("two and three", x.equation("ca=bba"), 2);
        Checks.due("three and one", x.equation("cca=a"), 3);
        Checks.due("one and four", x.equation("a=ccba"), 4);
        Checks.due("the fewest letters", x.complete(1) + " " + x.rules(), "0 cca>a");
        Checks.due("it was taken away", x.waiting(), "bbba=a ca=bba a=ccba");
        Checks.due("of several the first", x.complete(1) + " " + x.rules(), "0 cca>a bbba>a");
        Checks.due("and the next", x.complete(1) + " " + x.rules(), "0 bbba>a ca>bba");
        Run y = new Run("a0b1c1");
        y.ruleByRule("cccca=a");
        Checks.due("it would become ba = a", y.equation("bcccca=a"), 1);
        Checks.due("one letter less", y.equation("bbba=ba"), 2);
        Checks.due("letters count before the normal form", y.complete(1) + " " + y.waiting(), "0 bcccca=a");
    }

    private static void stepSame() {
        Checks.sentence("If they are the same, that is all.");
        due("the same as they came", "a0b1", texts("bx=bx"), "DONE 1: ; ");
        due("the same by a rule", "a0b1", texts("bx=x", "bba=a"), "DONE 2: bu>u; ");
        due("not the same by a rule", "a0b1c0", texts("bx=x", "bba=c"), "DONE 2: bu>u c>a; ");
        due("the same by a rule, though neither is above", "a0f2", texts("fxx=a", "fxx=fyy"), "DONE 2: fuu>a; ");
    }

    private static void stepFailed() {
        Checks.sentence("If neither of them is above the other one, it FAILED.");
        due("the left one is above", "a0f2", texts("fxy=x"), "DONE 1: fuv>u; ");
        due("the right one is above", "a0f2", texts("y=fxy"), "DONE 1: fuv>v; ");
        due("neither: another variable", "a0f2", texts("fxy=z"), "FAILED 1: ; ");
        due("neither: exchanged", "a0f2", texts("fxy=fyx"), "FAILED 1: ; ");
        due("neither: a symbol and a variable", "a0f2", texts("x=a"), "FAILED 1: ; ");
        // It could be turned as it came, but not when the rule has rewritten it.
        due("neither, when a rule has rewritten it", "a0f2", texts("fxy=y", "fxy=x"), "FAILED 2: fuv>v; ");
    }

    private static final String HEADS = "bcde";

    /** A left side with three letters: of all sixteen none rewrites another. */
    private static String leftSide(int i) {
        return HEADS.charAt(i / 4) + "" + HEADS.charAt(i % 4) + "a";
    }

    private static Run withRules(int count) {
        Run x = new Run("a0b1c1d1e1");
        for (int i = 0; i < count; i++) {
            x.ruleByRule(leftSide(i) + "=a");
        }
        Checks.due("so many rules", x.ruleCount() + " " + x.state(), count + " DONE");
        return x;
    }

    private static void fourteenRules() {
        Checks.sentence("It is FULL if there are 14 rules");
        Run x = withRules(13);
        Checks.due("the fourteenth", x.equation(leftSide(13) + "=a") + " " + x.complete(1), "1 1");
        Checks.due("it came", x.ruleCount() + " " + x.rule(13), "14 " + leftSide(13) + ">a");
        Checks.due("the fifteenth", x.equation(leftSide(14) + "=a") + " " + x.complete(1), "1 3");
        Checks.due("it did not come", x.ruleCount() + " " + x.rule(13) + " " + x.rule(14), "14 " + leftSide(13) + ">a ");
        Checks.due("its equation is gone, its step counts", x.waitingCount() + " " + x.steps(), "0 15");
        Run y = withRules(14);
        // Fewer rules would be left than there are.
        Checks.due("one that would take others away", y.equation("bx=x") + " " + y.complete(1), "1 3");
        Checks.due("they are not taken away", y.ruleCount() + " " + y.rule(0), "14 bba>a");
        Run z = withRules(13);
        Checks.due("one that takes seven away", z.equation("bx=x") + " " + z.complete(1), "1 0");
        Checks.due("they are taken away", z.ruleCount() + " " + z.rule(0), "7 cca>a");
    }

    private static void notByFourteenRules() {
        Checks.sentence("It is FULL if there are 14 rules");
        Run x = withRules(14);
        Checks.due("the same sides", x.equation("bbbba=a") + " " + x.complete(1), "1 1");
        Checks.due("still 14", x.ruleCount() + " " + x.steps(), "14 15");
        Checks.due("neither is above", x.equation("bx=by") + " " + x.complete(1), "1 2");
        Checks.due("14 again", x.ruleCount() + " " + x.steps(), "14 16");
    }

    // ---- 1 to 5 of a step

    private static void takenAway() {
        Checks.sentence("Every rule of which some subterm of the left side is an instance of the new rule's left side is taken"
                + " away");
        due("the whole left side", "a0g1h1", texts("hga=a", "hx=x"), "RUNNING 2: hu>u; ga=a");
        due("a subterm in the middle", "a0g1h1", texts("ghga=a", "hx=x"), "RUNNING 2: hu>u; gga=a");
        due("the last letter", "a0b0c0g1", texts("ggc=a", "c=b"), "RUNNING 2: c>b; ggb=a");
        String most = "g".repeat(23);
        due("the last of 24 letters", "a0b0c0g1", texts(most + "c=a", "c=b"), "RUNNING 2: c>b; " + most + "b=a");
        due("none of 24 letters", "a0b0c0g1", texts(most + "b=a", "c=b"), "DONE 2: " + most + "b>a c>b; ");
        due("no subterm", "a0b0c0g1", texts("ggb=a", "c=b"), "DONE 2: ggb>a c>b; ");
        due("of the right side alone", "a0b0c0g1", texts("gga=c", "c=b"), "DONE 2: gga>b c>b; ");
        due("the same for the same variables, and others", "a0b0c0f2", texts("fbb=a", "fbc=a", "fxx=x"),
                "RUNNING 3: fbc>a fuu>u; b=a");
        due("a longer term for a variable", "a0b0c0g1f2", texts("fggbc=b", "fxc=a"), "RUNNING 2: fuc>a; a=b");
        // They have a pair, but a variable is no instance of b, nor of c.
        due("a variable for a symbol", "a0b0c0f2", texts("fxc=a", "fbx=a"), "DONE 2: fuc>a fbu>a; ");
    }

    private static void takenAwayInOrder() {
        Checks.sentence("one after the other by rising numbers; each is a pair that is kept for 4");
        due("all three", "a0b1c1d1e1", texts("eba=a", "cba=a", "dba=a", "bx=x"), "RUNNING 4: bu>u; ea=a ca=a da=a");
        due("the first and the last", "a0b1c1d1e1", texts("eba=a", "cda=a", "dba=a", "bx=x"),
                "RUNNING 4: cda>a bu>u; ea=a da=a");
        due("two next to each other", "a0b1c1d1e1", texts("eda=a", "cba=a", "dba=a", "dca=a", "bx=x"),
                "RUNNING 5: eda>a dca>a bu>u; ca=a da=a");
    }

    private static void numberedAnew() {
        Checks.sentence("The new rule comes behind those that are left, which are numbered anew.");
        Run x = new Run("a0b0c0d1e1f1");
        x.ruleByRule("da=a", "ec=a", "fa=a");
        Checks.due("before", x.rules(), "da>a ec>a fa>a");
        x.ruleByRule("c=b");
        Checks.due("rule 1 became the last one", x.all(), "RUNNING 4: da>a fa>a c>b; eb=a");
        Checks.due("no rule 3", x.rule(3, 0), 0);
        due("none is left", "a0b0c0d1", texts("dc=a", "c=b"), "RUNNING 2: c>b; db=a");
    }

    private static void rightSides() {
        Checks.sentence("The right side of each other rule, by rising numbers, becomes its normal form");
        due("by the new rule and an older one", "a0b0c0g1h1", texts("gb=a", "ha=gc", "c=b"), "DONE 3: gb>a ha>a c>b; ");
        due("all of them", "a0b0c0d1g1h1", texts("da=c", "ga=a", "ha=dc", "c=b"), "DONE 4: da>b ga>a ha>db c>b; ");
        due("none", "a0b0c0d1", texts("da=a", "c=b"), "DONE 2: da>a c>b; ");
        due("with variables", "b1c1f2h2", texts("hxy=fcyx", "cx=bx"), "DONE 2: huv>fbvu cu>bu; ");
    }

    private static void keptBeforePairs() {
        Checks.sentence("The pairs of 1 are added, in their order.");
        // The new rule has a pair on itself; what was taken away comes before that.
        due("before those of 5", "a0b1c1d1", texts("cbbba=a", "dbba=a", "bbx=a"), "RUNNING 3: bbu>a; ca=a da=a ba=a");
        due("brought to normal forms by the rules as they are then", "a0b0c0d1h1", texts("hc=dc", "da=c", "db=a", "c=b"),
                "RUNNING 4: da>b db>a c>b; hb=a");
    }

    private static void pairsInOrder() {
        Checks.sentence("For each rule k, by rising numbers, the new one last: the pairs of the new rule on k are added, then,"
                + " if k is not the new one, those of k on the new one.");
        // New on 0, 0 on new, 1 on new, and 2 on new.
        due("on the one, and of it, and of the others", "a0d0e0h0b1c1f1g1", texts("fcx=a", "fbx=d", "fgx=h", "cbcfx=e"),
                "RUNNING 4: fcu>a fbu>d fgu>h cbcfu>e; fe=a cbca=e cbcd=e cbch=e");
        // 0 on new, and new on new.
        due("and itself last", "a0d0e0b1c1g1", texts("cgx=d", "cbcx=e"), "RUNNING 2: cgu>d cbcu>e; cbd=e cbe=e");
    }

    private static void pairsByLetters() {
        Checks.sentence("for every letter p of the left side of B, by rising numbers, that is no variable");
        due("two letters", "a0b0g1f2", texts("fgxgy=a", "ga=b"), "RUNNING 2: fgugv>a ga>b; fbgu=a fgub=a");
        due("the last letter", "a0b0c0g1", texts("gggc=a", "c=b"), "RUNNING 2: c>b; gggb=a");
        due("no letter but variables", "a0b0g1f2", texts("fxy=a", "ga=b"), "DONE 2: fuv>a ga>b; ");
        String most = "h".repeat(22);
        due("the last but one of 24 letters", "a0b0g1h1", texts(most + "gx=a", "ga=b"),
                "RUNNING 2: " + most + "gu>a ga>b; " + most + "b=a");
        due("24 letters of the other rule", "c0a0b1h1", texts("hbx=x", "b".repeat(23) + "a=c"),
                "RUNNING 2: hbu>u " + "b".repeat(23) + "a>c; hc=" + "b".repeat(22) + "a");
    }

    private static void pairsAtFirstLetter() {
        Checks.sentence("but not for the first letter if A and B are the same rule");
        due("of two rules", "b0a0f2", texts("fax=x", "fxa=b"), "RUNNING 2: fau>u fua>b; b=a");
        due("of one rule", "b0a0f2", texts("fax=x"), "DONE 1: fau>u; ");
        due("of one rule at the letter behind it", "b0a0g1", texts("ggx=a"), "RUNNING 1: ggu>a; ga=a");
    }

    private static void pairsOfItself() {
        Checks.sentence("(whose variables count as others than A's)");
        // At letter 2, fvu by fUfVU: v = U and u = fVU. With the same variables there would be none.
        due("a rule on itself", "b0a0f2", texts("fxfyx=y"), "RUNNING 1: fufvu>v; ffuvu=v");
        // With the same variables, u = gu would not fit.
        due("of two rules with the same names", "a0b0g1h1", texts("hgx=a", "ggx=b"),
                "RUNNING 2: hgu>a ggu>b; hb=a gb=b");
    }

    private static void pairsThatFit() {
        Checks.sentence("if there are terms that, put for the variables of both, make the subterm at p the same as the left side"
                + " of A");
        due("they fit", "a0b0f2h1", texts("hfxa=b", "fbx=x"), "RUNNING 2: hfua>b fbu>u; ha=b");
        due("another last letter", "a0b0f2h1", texts("hfxa=b", "fxb=x"), "DONE 2: hfua>b fub>u; ");
        due("the same variable for the same terms", "a0b0g1f2h1", texts("hfxa=b", "fxx=x"), "RUNNING 2: hfua>b fuu>u; ha=b");
        due("the same variable for terms that can't be", "a0b0g1f2h1", texts("hfgxx=b", "fxx=x"), "DONE 2: hfguu>b fuu>u; ");
        due("two variables that are the same twice", "a0b0f2h1", texts("hffxxy=b", "ffxxa=x"),
                "RUNNING 2: hffuuv>b ffuua>u; hu=b");
        // At letter 1 the second terms differ, and so would the first ones; at letter 4 both fit.
        due("what did not fit before does not matter", "a0b0c0f2h2", texts("hfccfxb=a", "fab=a"),
                "RUNNING 2: hfccfub>a fab>a; hfcca=a");
        // At letter 1, v = ga for the one and v = gU for the other, so U = a. At letter 5, v = fVfVgga.
        due("terms of both for the same variables", "a0b0g1f2h1", texts("hfxfyfgay=b", "fxfyfygx=x"),
                "RUNNING 2: hfufvfgav>b fufvfvgu>u; ha=b hfuffvfvggaga=b");
        // At letter 1, fuu by ffUUV: u = fUU and u = V. By ffUUU, u = fUU and u = U: no term is so.
        due("a variable for a longer term", "b0a0f2", texts("ffxxy=a"), "RUNNING 1: ffuuv>a; fau=a");
        due("a variable for a term in which it comes", "b0a0f2", texts("ffxxx=b"), "DONE 1: ffuuu>b; ");
        due("in its only place", "a0b0g1f2h1", texts("hfxx=b", "fgxx=b"), "DONE 2: hfuu>b fguu>b; ");
        due("in its second place", "a0b0f2h1", texts("hfxx=b", "ffaxx=b"), "DONE 2: hfuu>b ffauu>b; ");
        // The second rule has a pair on itself, with a for its variable.
        due("in its first place", "a0b0f2h1", texts("hfxx=b", "ffxax=b"), "RUNNING 2: hfuu>b ffuau>b; fbfaa=b");
    }

    private static void pairsMostGeneral() {
        Checks.sentence("let these be the most general ones");
        // u = fUV and v = U.
        due("variables stay variables", "b0a0f2", texts("ffxyx=a"), "RUNNING 1: ffuvu>a; fafuv=a");
        // U = b and u = fbb.
        due("symbols only where they must be", "b0a0f2", texts("fxfbx=a"), "RUNNING 1: fufbu>a; ffbba=a");
    }

    private static void pairsSides() {
        Checks.sentence("with them put for the variables, the pair's left side is B's left side in which A's right side stands in"
                + " the place of the subterm at p, its right side that of B");
        // At letter 2, gu by gbU: u = bU, in both sides of the pair, and what stands round the place stays.
        due("put everywhere", "b1f2g1h2", texts("hfgxyz=fxfyz", "gbx=bbx"),
                "RUNNING 2: hfguvw>fufvw gbu>bbu; hfbbuvw=fbufvw");
        due("put everywhere, the other rule on the new one", "b1f2g1h2", texts("gbx=bbx", "hfgxyz=fxfyz"),
                "RUNNING 2: gbu>bbu hfguvw>fufvw; hfbbuvw=fbufvw");
        due("only there where it comes", "b1f2g1h2", texts("hfgxgyz=fxz", "gbx=bbx"),
                "RUNNING 2: hfgugvw>fuw gbu>bbu; hfbbugvw=fbuw hfgubbvw=fuw");
    }

    // ---- FULL or FAILED in a step

    private static void fullStays() {
        Checks.sentence("When it is FULL or FAILED in a step, what was done before that in the step stays done, the rest is"
                + " not done any more");
        String symbols = "a0h2f2g2";
        String last = "gufvfwx";
        // The last rule has a pair with each of the others; that with the second one has six variables, or seven.
        due("inside of them all", symbols, texts("gfufvwx=u", "ghhuvwx=u", "gax=a", last + "=fufvfwx"),
                "RUNNING 4: gfufvwx>u ghhuvwx>u gau>a " + last + ">fufvfwx; ffufvwfxfyz=u fhhuvwfxfyz=u fafufvw=a");
        due("FULL in the middle", symbols, texts("gfufvwx=u", "ghhuvhwxy=u", "gax=a", last + "=fufvfwx"),
                "FULL 4: gfufvwx>u ghhuvhwxy>u gau>a " + last + ">fufvfwx; ffufvwfxfyz=u");
        Run x = new Run("f2g2");
        x.ruleByRule("gfufvfwxy=u");
        Checks.due("one that is taken", x.equation("gufvfwx=fufvfwx"), 1);
        Checks.due("one that is not reached", x.equation("fufvfwfxfyz=fzfyfxfwfvu"), 2);
        Checks.due("FULL", x.complete(20), 3);
        String then = "FULL 2: gfufvfwxy>u gufvfwx>fufvfwx; fufvfwfxfyz=fzfyfxfwfvu";
        Checks.due("no step more", x.all(), then);
        Checks.due("no step later", x.complete(20), 3);
        Checks.due("no equation more", x.equation("fxx=x"), STATE);
        Checks.due("nothing changes", x.all(), then);
        Checks.due("rules rewrite still", x.normalize("gfufufuuz"), "1 u");
    }

    private static void failedStays() {
        Checks.sentence("(the equation, or pair, that was at hand is gone");
        Run x = new Run("a0b1f2");
        x.ruleByRule("bbx=x");
        Checks.due("one that is not reached", x.equation("bfaba=bfbaa"), 1);
        Checks.due("one that can't be turned", x.equation("fxy=fyx"), 2);
        Checks.due("FAILED", x.complete(20), 2);
        String then = "FAILED 2: bbu>u; bfaba=bfbaa";
        Checks.due("it is gone, the rest stays", x.all(), then);
        Checks.due("no step later", x.complete(20), 2);
        Checks.due("no equation more", x.equation("fxx=x"), STATE);
        Checks.due("nothing changes", x.all(), then);
        Checks.due("rules rewrite still", x.normalize("bba"), "1 a");
        Checks.due("terms compare still", x.compare("ba=a"), 1);
    }
}
