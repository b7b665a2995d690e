/** Each promise of the document by calls whose answers were found by hand from its words. */
public final class PromiseTest {
    private static final String ARGUMENT = "IllegalArgumentException";
    private static final String STATE = "IllegalStateException";
    private static final String UNSUPPORTED = "UnsupportedOperationException";

    // The constants are written as numbers, so that a wrong one is seen.
    private static final int RUNNING = 0;
    private static final int DONE = 1;
    private static final int FAILED = 2;
    private static final int FULL = 3;

    public static void main(String[] args) {
        constants();
        newObject();
        declare();
        declareOrder();
        write();
        wipe();
        equation();
        equationWrong();
        equationRefused();
        complete();
        completeTurns();
        completeChooses();
        completeTakesRulesAway();
        completeOverlaps();
        completeAdds();
        completeKeepsFailed();
        fullByRules();
        fullByWaiting();
        fullByVariables();
        fullByLongStep();
        fullByLongRightSide();
        fullByLongKept();
        fullByLongPair();
        fullByManyRewritings();
        steps();
        rulesAndWaiting();
        ruleCharacters();
        equationCharacters();
        normalize();
        normalizeWrong();
        normalizeBounds();
        compare();
        compareWrong();
        draft();
        clear();
        groups();
        Checks.end("PromiseTest");
    }

    private static void constants() {
        Checks.due("RUNNING", RuleCompletion.RUNNING, RUNNING);
        Checks.due("DONE", RuleCompletion.DONE, DONE);
        Checks.due("FAILED", RuleCompletion.FAILED, FAILED);
        Checks.due("FULL", RuleCompletion.FULL, FULL);
        Checks.due("BELOW", RuleCompletion.BELOW, -1);
        Checks.due("SAME", RuleCompletion.SAME, 0);
        Checks.due("ABOVE", RuleCompletion.ABOVE, 1);
        Checks.due("NEITHER", RuleCompletion.NEITHER, 2);
    }

    // ---- 1

    private static void newObject() {
        RuleCompletion x = new RuleCompletion();
        Checks.due("1 rules", x.rules(), 0);
        Checks.due("1 waiting", x.waiting(), 0);
        Checks.due("1 steps", x.steps(), 0);
        Checks.due("1 draft", Checks.draft(x), "");
        Checks.due("1 complete(0)", Checks.complete(x, 0), DONE);
        Checks.due("1 complete(20)", Checks.complete(x, 20), DONE);
        Checks.due("1 empty equation", Checks.of(x::equation), ARGUMENT);
        for (char c = 'a'; c <= 'h'; c++) {
            Checks.due("1 no symbol " + c, Checks.normalize(x, "" + c), ARGUMENT + " " + c);
        }
        for (char c = 'u'; c <= 'z'; c++) {
            Checks.due("1 variable " + c, Checks.normalize(x, "" + c), "0 " + c);
        }
        RuleCompletion y = Checks.with("a0");
        Checks.due("1 objects have symbols of their own", Checks.normalize(x, "a"), ARGUMENT + " a");
        Checks.due("1 the other one has it", Checks.normalize(y, "a"), "0 a");
    }

    // ---- 2

    private static Object declare(RuleCompletion x, int letter, int places) {
        return Checks.of(() -> x.declare((char) letter, places));
    }

    private static void declare() {
        RuleCompletion x = new RuleCompletion();
        int[] noLetters = {'a' - 1, 'h' + 1, 0, 'A', 'u', 'z', 'a' + 256, 'a' + 128, 65535, '='};
        for (int letter : noLetters) {
            Checks.due("2 letter " + letter, declare(x, letter, 0), ARGUMENT);
        }
        int[] noPlaces = {-1, 3, Integer.MAX_VALUE, Integer.MIN_VALUE};
        for (int places : noPlaces) {
            Checks.due("2 places " + places, declare(x, 'a', places), ARGUMENT);
        }
        Checks.due("2 what was refused is not declared", Checks.normalize(x, "a"), ARGUMENT + " a");
        Checks.due("2 a", declare(x, 'a', 0), "done");
        Checks.due("2 h", declare(x, 'h', 2), "done");
        Checks.due("2 d", declare(x, 'd', 1), "done");
        Checks.due("2 a again", declare(x, 'a', 0), STATE);
        Checks.due("2 h again with other places", declare(x, 'h', 0), STATE);
        Checks.due("2 h again with wrong places", declare(x, 'h', 3), ARGUMENT);
        Checks.due("2 places hold", Checks.normalize(x, "hdahxa"), "0 hdahxa");
        Checks.due("2 too few terms", Checks.normalize(x, "h"), ARGUMENT + " h");
        Checks.due("2 too many terms", Checks.normalize(x, "daa"), ARGUMENT + " daa");
        for (char c : "bcefg".toCharArray()) {
            Checks.due("2 all eight", declare(x, c, 1), "done");
        }
        Checks.due("2 all eight in one term", Checks.normalize(x, "bcdefghaa"), "0 bcdefghaa");
    }

    private static void declareOrder() {
        RuleCompletion x = Checks.with("h0a0");
        Checks.due("2 the later one is greater", Checks.compare(x, "a=h"), 1);
        Checks.due("2 a refused one changes no order", declare(x, 'h', 0), STATE);
        Checks.due("2 the later one is still greater", Checks.compare(x, "h=a"), -1);
        Checks.equations(x, "a=h");
        x.complete(1);
        Checks.due("2 declaring goes on later", declare(x, 'c', 1), "done");
        Checks.due("2 the newest is the greatest", Checks.compare(x, "ch=a"), 1);
        Checks.due("2 rules stay", Checks.rules(x), "a>h");
    }

    // ---- 3

    private static void write() {
        RuleCompletion x = new RuleCompletion();
        Checks.due("3 lowest first", x.write(0x6867666564636261L), true);
        Checks.due("3 eight characters", Checks.draft(x), "abcdefgh");
        Checks.due("3 zeros between", x.write(0x7A00007900007800L), true);
        Checks.due("3 zeros are left out", Checks.draft(x), "abcdefghxyz");
        Checks.due("3 zero", x.write(0), true);
        Checks.due("3 nothing came", Checks.draft(x), "abcdefghxyz");
        Checks.due("3 bytes above 127", x.write(-1L << 48), true);
        Checks.due("3 they count from 0 to 255", (int) x.draft(11) + " " + (int) x.draft(12), "255 255");
        x.wipe();
        for (int i = 0; i < 7; i++) {
            Checks.due("3 up to 56", x.write(0x6161616161616161L), true);
        }
        Checks.due("3 five more are too many", x.write(0x6262626262L), false);
        Checks.due("3 eight more are too many", x.write(0x6262626262626262L), false);
        Checks.due("3 nothing has changed", Checks.draft(x), "a".repeat(56));
        Checks.due("3 four more are just enough", x.write(0x0063630063630000L), true);
        Checks.due("3 sixty", Checks.draft(x), "a".repeat(56) + "cccc");
        Checks.due("3 one more", x.write(97), false);
        Checks.due("3 none more", x.write(0), true);
        Checks.due("3 still sixty", Checks.draft(x), "a".repeat(56) + "cccc");
    }

    // ---- 4

    private static void wipe() {
        RuleCompletion x = Checks.with("a0b1");
        x.wipe();
        Checks.due("4 empty before", Checks.draft(x), "");
        Checks.equations(x, "bx=x", "bba=a");
        x.complete(1);
        Checks.due("4 draft before", Checks.draft(x), "bba=a");
        x.wipe();
        Checks.due("4 draft", Checks.draft(x), "");
        Checks.due("4 character 0", (int) x.draft(0), 0);
        Checks.due("4 all else stays", Checks.rules(x) + "; " + Checks.waiting(x) + "; " + x.steps(), "bu>u; bba=a; 1");
        x.write(97);
        Checks.due("4 written from the beginning", Checks.draft(x), "a");
        Checks.due("4 symbols stay", Checks.of(x::normalize), 0);
    }

    // ---- 5

    private static void equation() {
        RuleCompletion x = Checks.with("a0b1f2");
        Checks.due("5 first", Checks.equation(x, "fzx=fxy"), 1);
        Checks.due("5 the draft stays", Checks.draft(x), "fzx=fxy");
        Checks.due("5 again", Checks.of(x::equation), 2);
        Checks.due("5 the same sides", Checks.equation(x, "y=y"), 3);
        Checks.due("5 all six variables", Checks.equation(x, "fzfyfxfwfvu=fuz"), 4);
        Checks.due("5 new variables at the right", Checks.equation(x, "a=fyfzy"), 5);
        Checks.due("5 renamed, in their order", Checks.waiting(x), "fuv=fvw fuv=fvw u=u fufvfwfxfyz=fzu a=fufvu");
        String long24 = "b".repeat(23) + "a";
        Checks.due("5 sides of 24", Checks.equation(x, long24 + "=" + long24), 6);
        Checks.due("5 as it is, though a rule rewrites it", Checks.equation(x, "ba=a"), 7);
        x.complete(1);
        Checks.due("5 not normalized when it comes", Checks.equation(x, "bba=bx"), 7);
        Checks.due("5 it stands there so", Checks.waiting(x).endsWith(" bba=bu"), true);
    }

    private static void equationWrong() {
        RuleCompletion x = Checks.with("a0b1f2");
        String long25 = "b".repeat(24) + "a";
        String[] texts = {"", "=", "a", "a=", "=a", "a=a=a", "a==a", "b=a", "a=b", "fa=a", "faaa=a", "a=faaa", "aa=a", "a=aa", "aaf=a", "a=aaf",
            "c=a", "a=h", "a=t", "t=a", "a={", "A=a", "U=a", "a =a", "a=a ", "a>a", "\u00e1=a", "\u00f5=a", "1=a",
            long25 + "=a", "a=" + long25};
        for (String text : texts) {
            Checks.due("5 wrong: " + text, Checks.equation(x, text), ARGUMENT);
            Checks.due("5 the draft stays: " + text, Checks.draft(x), text);
        }
        Checks.due("5 nothing came", x.waiting(), 0);
    }

    private static void equationRefused() {
        RuleCompletion x = Checks.with("a0b1");
        for (int i = 1; i <= 48; i++) {
            Checks.due("5 number " + i, Checks.equation(x, "bx=x"), i);
        }
        Checks.due("5 the 49th", Checks.equation(x, "ba=a"), STATE);
        Checks.due("5 its draft stays", Checks.draft(x), "ba=a");
        Checks.due("5 still 48", x.waiting(), 48);
        Checks.due("5 a wrong draft comes first", Checks.equation(x, "ba"), ARGUMENT);
        x.complete(1);
        Checks.due("5 room again", Checks.equation(x, "ba=a"), 48);
        RuleCompletion y = Checks.with("a0b1");
        Checks.equations(y, "x=y");
        Checks.due("5 before it fails", Checks.complete(y, 1), FAILED);
        Checks.due("5 when FAILED", Checks.equation(y, "ba=a"), STATE);
        Checks.due("5 when FAILED and wrong", Checks.equation(y, "ba=c"), ARGUMENT);
        Checks.due("5 none came", y.waiting(), 0);
        RuleCompletion z = fullOfRules();
        Checks.due("5 when FULL", Checks.equation(z, "ba=a"), STATE);
        Checks.due("5 when FULL the draft stays", Checks.draft(z), "ba=a");
    }

    // ---- 6

    private static void complete() {
        RuleCompletion x = Checks.with("a0b1");
        Checks.equations(x, "bba=a", "bbba=a");
        int[] wrong = {-1, 21, Integer.MIN_VALUE, Integer.MAX_VALUE};
        for (int steps : wrong) {
            Checks.due("6 steps " + steps, Checks.complete(x, steps), ARGUMENT);
        }
        Checks.due("6 nothing was done", x.steps() + " " + x.rules() + " " + x.waiting(), "0 0 2");
        Checks.due("6 no steps", Checks.complete(x, 0), RUNNING);
        Checks.due("6 still nothing", x.steps() + " " + x.rules() + " " + x.waiting(), "0 0 2");
        Checks.due("6 one step", Checks.complete(x, 1), RUNNING);
        Checks.due("6 a rule", Checks.rules(x) + "; " + Checks.waiting(x), "bba>a; bbba=a");
        Checks.due("6 the rest", Checks.complete(x, 20), DONE);
        // bbba is ba by the rule; then ba > a takes bba > a away, which comes to a = a.
        Checks.due("6 what came of it", Checks.rules(x) + "; " + Checks.waiting(x), "ba>a; ");
        Checks.due("6 steps are not wasted", x.steps(), 2);
        Checks.due("6 done stays done", Checks.complete(x, 20), DONE);
        Checks.due("6 still two steps", x.steps(), 2);
        Checks.due("6 wrong when done", Checks.complete(x, 21), ARGUMENT);
        Checks.equations(x, "bba=a");
        Checks.due("6 running again", Checks.complete(x, 0), RUNNING);
        Checks.due("6 the same sides", Checks.complete(x, 1), DONE);
        Checks.due("6 no rule came of them", Checks.rules(x) + " " + x.steps(), "ba>a 3");
    }

    private static void completeTurns() {
        RuleCompletion x = Checks.with("a0c1b1");
        Checks.equations(x, "cy=by");
        Checks.due("6 turned", Checks.complete(x, 20), DONE);
        Checks.due("6 the greater one is left", Checks.rules(x), "bu>cu");
        x.clear();
        Checks.equations(x, "x=bbx");
        x.complete(20);
        Checks.due("6 a variable is right", Checks.rules(x), "bbu>u");
        RuleCompletion y = Checks.with("a0g2f2");
        Checks.equations(y, "gxy=fyx");
        Checks.due("6 turned and renamed", Checks.complete(y, 1), DONE);
        Checks.due("6 by the new left side", Checks.rules(y), "fuv>gvu");
        RuleCompletion z = Checks.with("a0f2");
        Checks.equations(z, "fxy=fyx", "faa=a");
        Checks.due("6 faa > a goes first, then it fails", Checks.complete(z, 20), FAILED);
        Checks.due("6 what was there stays", Checks.rules(z) + "; " + Checks.waiting(z) + "; " + z.steps(), "faa>a; ; 2");
    }

    private static void completeChooses() {
        RuleCompletion x = Checks.with("a0b1c1d1e1");
        Checks.equations(x, "bbba=a", "cca=a", "dda=a", "ea=a");
        x.complete(1);
        Checks.due("6 the fewest letters", Checks.rules(x) + "; " + Checks.waiting(x), "ea>a; bbba=a cca=a dda=a");
        x.complete(1);
        Checks.due("6 the first of several", Checks.rules(x) + "; " + Checks.waiting(x), "ea>a cca>a; bbba=a dda=a");
        x.clear();
        Checks.equations(x, "bbbba=a", "cca=bba", "da=ccca");
        x.complete(1);
        Checks.due("6 both sides count", Checks.rules(x), "bbbba>a");
        x.complete(1);
        Checks.due("6 the first of several again", Checks.rules(x), "bbbba>a cca>bba");
        x.complete(1);
        Checks.due("6 normal forms before it is turned", Checks.rules(x), "bbbba>a cca>bba da>cbba");
    }

    private static void completeTakesRulesAway() {
        RuleCompletion x = Checks.with("a0b0c0d1e1");
        Checks.equations(x, "eb=dc", "ec=dc", "da=a");
        Checks.due("6 three rules", Checks.complete(x, 20), DONE);
        Checks.due("6 by size and age", Checks.rules(x), "da>a eb>dc ec>dc");
        Checks.equations(x, "c=b");
        Checks.due("6 one more", Checks.complete(x, 1), DONE);
        // ec > dc goes, dc at the right becomes db, and (ec, dc) comes to db = db.
        Checks.due("6 taken away, and right sides", Checks.rules(x), "da>a eb>db c>b");
        x.clear();
        Checks.equations(x, "eda=b", "edb=b", "eeda=a");
        x.complete(20);
        // eeda is eb then, so the third rule is eb > a.
        Checks.due("6 rules before", Checks.rules(x), "eda>b edb>b eb>a");
        Checks.equations(x, "dx=x");
        x.complete(1);
        // eda and edb both go: (ea, b) and (eb, b), which the rule eb > a makes (a, b).
        Checks.due("6 two are taken away", Checks.rules(x), "eb>a du>u");
        Checks.due("6 they come in their order", Checks.waiting(x), "ea=b a=b");
        x.clear();
        Checks.equations(x, "dea=a");
        x.complete(1);
        Checks.equations(x, "ex=x");
        Checks.due("6 below the first letter too", Checks.complete(x, 1), RUNNING);
        Checks.due("6 it was taken away", Checks.rules(x) + "; " + Checks.waiting(x), "eu>u; da=a");
    }

    private static void completeOverlaps() {
        RuleCompletion x = Checks.with("a0b1c1");
        Checks.equations(x, "bbx=a");
        Checks.due("6 on itself", Checks.complete(x, 1), RUNNING);
        Checks.due("6 the pair of that", Checks.rules(x) + "; " + Checks.waiting(x), "bbu>a; ba=a");
        Checks.due("6 done then", Checks.complete(x, 20), DONE);
        Checks.due("6 two rules", Checks.rules(x) + "; " + x.steps(), "bbu>a ba>a; 2");
        x.clear();
        Checks.equations(x, "bcx=x", "ccx=ba");
        x.complete(1);
        Checks.due("6 first rule", Checks.rules(x), "bcu>u");
        x.complete(1);
        // New on old, bc(cu): (b ba, cu). Old on new: none. New on itself, cc(cu): (c ba, ba).
        Checks.due("6 second rule", Checks.rules(x), "bcu>u ccu>ba");
        Checks.due("6 pairs in their order", Checks.waiting(x), "bba=cu cba=ba");
        RuleCompletion y = Checks.with("b0a0f2");
        Checks.equations(y, "fax=x", "fxa=b");
        y.complete(2);
        // At the first letter, new on old: f a a gives (b, a); old on new gives (a, b): there exchanged.
        Checks.due("6 at the first letter of another rule", Checks.rules(y) + "; " + Checks.waiting(y), "fau>u fua>b; b=a");
        y.clear();
        Checks.equations(y, "fxfyx=y");
        y.complete(1);
        // p = 2, fvu by fUfVU: v = U, u = fVU, so (f fVU V, U) and all are variables of the pair.
        Checks.due("6 variables of both are others", Checks.rules(y) + "; " + Checks.waiting(y), "fufvu>v; ffuvu=v");
        y.clear();
        Checks.equations(y, "ffxxy=a");
        y.complete(1);
        // p = 1, fuu by ffUUV: u = fUU and u = V fit, so (f a v, a).
        Checks.due("6 the same variable twice", Checks.rules(y) + "; " + Checks.waiting(y), "ffuuv>a; fau=a");
        y.clear();
        Checks.equations(y, "fxfbx=a");
        y.complete(1);
        // p = 2, fbu by fUfbU: U = b and u = fbb, so (f fbb a, a).
        Checks.due("6 terms for variables", Checks.rules(y) + "; " + Checks.waiting(y), "fufbu>a; ffbba=a");
        y.clear();
        Checks.equations(y, "ffxyx=a");
        y.complete(1);
        // p = 1, fuv by ffUVU: u = fUV and v = U, so (f a fUV, a).
        Checks.due("6 other terms for variables", Checks.rules(y) + "; " + Checks.waiting(y), "ffuvu>a; fafuv=a");
        y.clear();
        Checks.equations(y, "fxfxy=y");
        y.complete(1);
        // p = 2, fuv by fUfUV: u = U and v = fUV, so (f U V, f U V): the same.
        Checks.due("6 a pair that is the same", Checks.rules(y) + "; " + y.waiting(), "fufuv>v; 0");
        y.clear();
        Checks.equations(y, "ffxxx=b");
        y.complete(1);
        // p = 1, fuu by ffUUU: u = fUU and u = U: no term is so.
        Checks.due("6 no variable in its own term", Checks.rules(y) + "; " + y.waiting(), "ffuuu>b; 0");
    }

    private static void completeAdds() {
        RuleCompletion x = Checks.with("a0c1b1");
        String right = "cccca";
        Checks.equations(x, "bbbx=" + right, "b" + right + "=" + right, right + "=bb" + right);
        for (int i = 0; i < 45; i++) {
            Checks.equations(x, "c".repeat(12) + "a=a");
        }
        Checks.due("6 all places taken", x.waiting(), 48);
        // Both pairs are there already, one of them exchanged: none comes.
        Checks.due("6 nothing comes twice", Checks.complete(x, 1), RUNNING);
        Checks.due("6 one is gone", x.waiting() + " " + x.rules(), "47 1");
        RuleCompletion y = Checks.with("f2g2");
        Checks.equations(y, "gfufvwx=u", "gufvfwx=fufvfwx");
        Checks.due("6 six variables", Checks.complete(y, 2), RUNNING);
        // The exchanged pair has other names for its variables before it is renamed.
        Checks.due("6 there exchanged and renamed", Checks.waiting(y), "ffufvwfxfyz=u");
        RuleCompletion v = Checks.with("c1f2g2h2");
        Checks.equations(v, "hcxy=fxy", "hxcy=gyx", "fxcy=gycx");
        v.complete(2);
        // At the first letter, new on old: h cu cv gives (gvcu, fucv), which is gucv = fvcu.
        Checks.due("6 rules with one pair", Checks.rules(v), "hcuv>fuv hucv>gvu");
        Checks.due("6 renamed anew when it is exchanged", Checks.waiting(v), "fucv=gvcu");
        RuleCompletion w = Checks.with("a0b1c1");
        Checks.equations(w, "cbbba=a");
        w.complete(1);
        Checks.equations(w, "bbx=a");
        w.complete(1);
        // What was taken away comes to (ca, a), and before the pair of the new rule on itself.
        Checks.due("6 kept pairs come first", Checks.rules(w) + "; " + Checks.waiting(w), "bbu>a; ca=a ba=a");
        RuleCompletion z = Checks.with("a0b0c0d0h1");
        Checks.equations(z, "hb=a", "hc=a");
        z.complete(2);
        Checks.equations(z, "hd=a", "hhhd=a");
        z.complete(1);
        Checks.due("6 before", Checks.rules(z) + "; " + Checks.waiting(z), "hb>a hc>a hd>a; hhhd=a");
        Checks.equations(z, "c=b", "d=b");
        z.complete(2);
        // (hc, a) and (hd, a) both come to a = a.
        Checks.due("6 pairs are normalized", Checks.rules(z) + "; " + Checks.waiting(z), "hb>a c>b d>b; hhhd=a");
    }

    private static void completeKeepsFailed() {
        RuleCompletion x = Checks.with("a0b1");
        Checks.equations(x, "x=y", "ba=a");
        Checks.due("6 FAILED", Checks.complete(x, 20), FAILED);
        Checks.due("6 one step, the equation is gone", x.steps() + " " + Checks.waiting(x), "1 ba=a");
        Checks.due("6 FAILED stays", Checks.complete(x, 20), FAILED);
        Checks.due("6 FAILED with no steps", Checks.complete(x, 0), FAILED);
        Checks.due("6 FAILED and wrong", Checks.complete(x, 21), ARGUMENT);
        Checks.due("6 nothing more was done", x.steps() + " " + x.rules() + " " + Checks.waiting(x), "1 0 ba=a");
    }

    /** Fourteen rules, one step more, and one equation that waits. */
    private static RuleCompletion fullOfRules() {
        RuleCompletion x = Checks.with("a0b1c1d1e1");
        String heads = "bcde";
        for (int i = 0; i < 14; i++) {
            Checks.equations(x, heads.charAt(i / 4) + "" + heads.charAt(i % 4) + "a=a");
        }
        Checks.due("6 fourteen rules", Checks.complete(x, 20), DONE);
        Checks.due("6 all of them", x.rules() + " " + x.steps(), "14 14");
        Checks.equations(x, "bbbba=a", "bbba=ca");
        Checks.due("6 the same sides are no rule", Checks.complete(x, 1), RUNNING);
        Checks.due("6 it was bbbba = a", x.rules() + " " + Checks.waiting(x), "14 bbba=ca");
        Checks.equations(x, "edea=eeda");
        Checks.due("6 the fifteenth", Checks.complete(x, 20), FULL);
        return x;
    }

    private static void fullByRules() {
        RuleCompletion x = fullOfRules();
        // bbba = ca is ba = ca, which would be a rule; ca > ba would take rules away, but it is FULL before that.
        Checks.due("6 nothing was taken away", x.rules() + " " + x.steps() + " " + Checks.waiting(x), "14 16 edea=eeda");
        Checks.due("6 FULL stays", Checks.complete(x, 20), FULL);
        Checks.due("6 FULL with no steps", Checks.complete(x, 0), FULL);
        Checks.due("6 FULL and wrong", Checks.complete(x, -1), ARGUMENT);
        Checks.due("6 no step more", x.steps(), 16);
    }

    private static void fullByWaiting() {
        RuleCompletion x = Checks.with("a0b1c1");
        Checks.equations(x, "bbbx=a");
        for (int i = 0; i < 47; i++) {
            Checks.equations(x, "cccccca=ca");
        }
        // The pairs of the rule on itself are (ba, a) and (bba, a): for one of them there is room.
        Checks.due("6 no room for an equation", Checks.complete(x, 20), FULL);
        Checks.due("6 the first one came", x.waiting() + " " + Checks.equationAt(x, 47), "48 ba=a");
        Checks.due("6 the rule stays", Checks.rules(x) + " " + x.steps(), "bbbu>a 1");
    }

    private static void fullByVariables() {
        RuleCompletion x = Checks.with("f2g2");
        Checks.equations(x, "gfufvfwxy=u", "gufvfwx=fufvfwx");
        Checks.due("6 seven variables", Checks.complete(x, 20), FULL);
        Checks.due("6 rules stay", Checks.rules(x) + "; " + x.waiting() + " " + x.steps(),
                "gfufvfwxy>u gufvfwx>fufvfwx; 0 2");
    }

    private static void fullByLongStep() {
        RuleCompletion x = Checks.with("a0b2d0e0");
        Checks.equations(x, "d=bbaabaa", "bdbdbdd=a", "e=a");
        Checks.due("6 e = a, then d", Checks.complete(x, 2), RUNNING);
        Checks.due("6 rules", Checks.rules(x), "e>a d>bbaabaa");
        Checks.due("6 a left side grows too long", Checks.complete(x, 1), FULL);
        Checks.due("6 the equation is gone", Checks.rules(x) + "; " + x.waiting() + " " + x.steps(), "e>a d>bbaabaa; 0 3");
        RuleCompletion y = Checks.with("a0b2d0e0");
        Checks.equations(y, "d=bbaabaa", "a=bdbdbdd", "bdbdbdd=bdbdbdd");
        Checks.due("6 a right side grows too long", Checks.complete(y, 20), FULL);
        Checks.due("6 that equation is gone", Checks.rules(y) + "; " + Checks.waiting(y) + "; " + y.steps(),
                "d>bbaabaa; bdbdbdd=bdbdbdd; 2");
        RuleCompletion z = Checks.with("a0b2d0");
        Checks.equations(z, "d=bbaabaa", "bdbdbdd=bdbdbdd");
        Checks.due("6 sides that are the same grow too long", Checks.complete(z, 20), FULL);
    }

    private static void fullByLongRightSide() {
        RuleCompletion x = Checks.with("a0b2c1d0e0h1");
        Checks.equations(x, "e=bdbdbdd", "hd=d", "hhd=a");
        x.complete(20);
        // hhd is d, so it is d = a.
        Checks.due("6 before", Checks.rules(x), "d>a ha>a e>bababaa");
        x.clear();
        Checks.equations(x, "cd=a", "e=bdbdbdd", "he=a");
        x.complete(20);
        Checks.due("6 three rules", Checks.rules(x), "cd>a e>bdbdbdd hbdbdbdd>a");
        Checks.equations(x, "d=bbaabaa");
        // cd > a is taken away and e > bdbdbdd gets too long before it could be added.
        Checks.due("6 the right side of a rule", Checks.complete(x, 20), FULL);
        Checks.due("6 the rules as they are then", Checks.rules(x), "e>bdbdbdd d>bbaabaa");
        Checks.due("6 the kept pair is gone", x.waiting() + " " + x.steps(), "0 5");
    }

    private static void fullByLongKept() {
        RuleCompletion x = Checks.with("a0b2d0c1h1");
        String thirteen = "babababababaa";
        Checks.equations(x, "hd=a", "cd=bdd", "hhhd=a", "d=" + thirteen);
        Checks.due("6 hhhd is hha, a rule", Checks.complete(x, 3), RUNNING);
        Checks.due("6 the rules then", Checks.rules(x), "hd>a cd>bdd hha>a");
        // hd and cd go; (hd, a) comes with 14 letters, and bdd gets 27.
        Checks.due("6 a kept pair grows too long", Checks.complete(x, 1), FULL);
        Checks.due("6 both were taken away", Checks.rules(x), "hha>a d>" + thirteen);
        Checks.due("6 the first one came", Checks.waiting(x) + " " + x.steps(), "h" + thirteen + "=a 4");
    }

    private static void fullByLongPair() {
        // 23 letters over a and b, and one of e before them.
        String tree = "ba".repeat(11) + "a";
        RuleCompletion x = Checks.with("a0e1b2c1d1");
        Checks.equations(x, "dcx=x", "ca=" + tree);
        Checks.due("6 a side of 24 letters", Checks.complete(x, 2), RUNNING);
        Checks.due("6 it is there", Checks.waiting(x), "d" + tree + "=a");
        RuleCompletion y = Checks.with("a0e1b2c1d1");
        Checks.equations(y, "dcx=x", "ca=e" + tree);
        Checks.due("6 a side of 25 letters", Checks.complete(y, 2), FULL);
        Checks.due("6 the rules are there", Checks.rules(y) + "; " + y.waiting(), "dcu>u ca>e" + tree + "; 0");
    }

    private static void fullByManyRewritings() {
        RuleCompletion x = Checks.with("a0c1d1h1");
        Checks.equations(x, "dcx=cdx");
        x.complete(1);
        Checks.equations(x, "hdddddcccccccca=a");
        Checks.due("6 forty rewritings", Checks.complete(x, 1), DONE);
        Checks.due("6 the rule of that", Checks.rules(x), "dcu>cdu hccccccccddddda>a");
        Checks.equations(x, "hddddddccccccca=a");
        Checks.due("6 forty-two rewritings", Checks.complete(x, 1), FULL);
        Checks.due("6 no rule of that", x.rules() + " " + x.waiting(), "2 0");
    }

    // ---- 7

    private static void steps() {
        RuleCompletion x = Checks.with("a0b1");
        Checks.equations(x, "bx=x", "ba=a", "bba=a", "x=y");
        Checks.due("7 none", x.steps(), 0);
        x.complete(0);
        Checks.due("7 still none", x.steps(), 0);
        Checks.due("7 x = y is the shortest", Checks.complete(x, 1), FAILED);
        Checks.due("7 a step that failed", x.steps(), 1);
        x.complete(20);
        Checks.due("7 none more", x.steps(), 1);
        x.clear();
        Checks.due("7 cleared", x.steps(), 0);
        Checks.equations(x, "bx=x", "ba=a", "bba=a");
        x.complete(2);
        Checks.due("7 two", x.steps(), 2);
        x.complete(20);
        Checks.due("7 as many as there were", x.steps(), 3);
        Checks.of(() -> x.complete(21));
        Checks.due("7 none by a wrong call", x.steps(), 3);
        RuleCompletion y = fullOfRules();
        Checks.due("7 a step that was FULL", y.steps(), 16);
    }

    // ---- 8, 9

    private static void rulesAndWaiting() {
        RuleCompletion x = Checks.with("a0b1c1");
        Checks.equations(x, "bba=a", "cca=a", "bba=a");
        Checks.due("8 none", x.rules(), 0);
        Checks.due("9 three", x.waiting(), 3);
        x.complete(1);
        Checks.due("8 one", x.rules(), 1);
        Checks.due("9 two", x.waiting(), 2);
        x.complete(20);
        Checks.due("8 two", x.rules(), 2);
        Checks.due("9 none", x.waiting(), 0);
        Checks.equations(x, "bx=x");
        x.complete(1);
        Checks.due("8 one taken away, one come", x.rules(), 2);
    }

    // ---- 10

    private static void ruleCharacters() {
        RuleCompletion x = Checks.with("a0f2");
        Checks.due("10 no rule", (int) x.rule(0, 0), 0);
        Checks.equations(x, "ffxya=fxfya", "faa=a");
        x.complete(2);
        Checks.due("10 rules", Checks.rules(x), "faa>a ffuva>fufva");
        Checks.due("10 >", x.rule(1, 5), '>');
        Checks.due("10 first", x.rule(0, 0), 'f');
        Checks.due("10 last", x.rule(0, 4), 'a');
        int[][] none = {{0, 5}, {0, -1}, {1, 11}, {2, 0}, {-1, 0}, {14, 0}, {0, Integer.MAX_VALUE},
            {0, Integer.MIN_VALUE}, {Integer.MAX_VALUE, 0}, {Integer.MIN_VALUE, 0}};
        for (int[] at : none) {
            Checks.due("10 none at " + at[0] + ", " + at[1], (int) x.rule(at[0], at[1]), 0);
        }
        x.clear();
        Checks.due("10 none behind clear", (int) x.rule(0, 0), 0);
    }

    // ---- 11

    private static void equationCharacters() {
        RuleCompletion x = Checks.with("a0b1");
        Checks.due("11 no equation", (int) x.equationAt(0, 0), 0);
        String side = "b".repeat(23) + "a";
        Checks.equations(x, "bz=y", side + "=" + side);
        Checks.due("11 equations", Checks.waiting(x), "bu=v " + side + "=" + side);
        Checks.due("11 =", x.equationAt(0, 2), '=');
        Checks.due("11 last", x.equationAt(1, 48), 'a');
        int[][] none = {{0, 4}, {0, -1}, {1, 49}, {2, 0}, {-1, 0}, {48, 0}, {0, Integer.MAX_VALUE},
            {0, Integer.MIN_VALUE}, {Integer.MAX_VALUE, 0}, {Integer.MIN_VALUE, 0}};
        for (int[] at : none) {
            Checks.due("11 none at " + at[0] + ", " + at[1], (int) x.equationAt(at[0], at[1]), 0);
        }
        x.complete(1);
        Checks.due("11 those behind it move up", Checks.waiting(x), side + "=" + side);
        Checks.due("11 none where it was", (int) x.equationAt(1, 0), 0);
    }

    // ---- 12

    private static void normalize() {
        RuleCompletion x = Checks.with("b0a0f2");
        Checks.due("12 no rules", Checks.normalize(x, "fzfxa"), "0 fzfxa");
        Checks.equations(x, "fax=x", "fxa=b");
        x.complete(2);
        Checks.due("12 rules", Checks.rules(x), "fau>u fua>b");
        Checks.due("12 the least number", Checks.normalize(x, "faa"), "1 a");
        Checks.due("12 the first letter", Checks.normalize(x, "ffaba"), "1 b");
        Checks.due("12 variables keep their names", Checks.normalize(x, "fzfay"), "1 fzy");
        Checks.due("12 a variable", Checks.normalize(x, "w"), "0 w");
        Checks.due("12 several", Checks.normalize(x, "fafafafab"), "4 b");
        Checks.due("12 at the end", Checks.normalize(x, "fbfbfay"), "1 fbfby");
        Checks.due("12 a variable is no instance of a symbol", Checks.normalize(x, "fxy"), "0 fxy");
        Checks.due("12 all else stays", x.steps() + " " + x.rules() + " " + Checks.waiting(x), "2 2 b=a");
        RuleCompletion y = Checks.with("a0b1f2");
        Checks.equations(y, "fxx=x");
        y.complete(1);
        Checks.due("12 the same terms", Checks.normalize(y, "fbzbz"), "1 bz");
        Checks.due("12 not the same terms", Checks.normalize(y, "fbzby"), "0 fbzby");
        Checks.due("12 not the same length", Checks.normalize(y, "fbzz"), "0 fbzz");
        Checks.due("12 inside out", Checks.normalize(y, "ffbzbzbz"), "2 bz");
        Checks.equations(y, "x=y");
        Checks.due("12 it fails", Checks.complete(y, 1), FAILED);
        Checks.due("12 when FAILED", Checks.normalize(y, "faa"), "1 a");
        Checks.due("12 when FULL", Checks.normalize(fullOfRules(), "bcbcbca"), "3 a");
    }

    private static void normalizeWrong() {
        RuleCompletion x = Checks.with("a0b1f2");
        Checks.equations(x, "bx=x");
        x.complete(1);
        String[] texts = {"", "b", "fa", "faaa", "aa", "aaf", "c", "h", "t", "{", "A", "ba=a", "ba ", " ba", "=", "b".repeat(24) + "a",
            "b".repeat(59) + "a", "\u0080", "\u00f5", "\u00e1"};
        for (String text : texts) {
            Checks.due("12 wrong: " + text, Checks.normalize(x, text), ARGUMENT + " " + text);
        }
        Checks.due("12 24 letters", Checks.normalize(x, "b".repeat(23) + "a"), "23 a");
    }

    private static void normalizeBounds() {
        RuleCompletion x = Checks.with("a0c1d1");
        Checks.equations(x, "dcx=cdx");
        x.complete(1);
        Checks.due("12 forty", Checks.normalize(x, "dddddcccccccca"), "40 ccccccccddddda");
        Checks.due("12 forty-two", Checks.normalize(x, "ddddddccccccca"), UNSUPPORTED + " ddddddccccccca");
        Checks.due("12 the draft can be used again", Checks.of(x::normalize), UNSUPPORTED);
        RuleCompletion w = Checks.with("a0c1d1h1");
        Checks.equations(w, "hx=x", "dcx=cdx");
        w.complete(2);
        Checks.due("12 forty-one", Checks.normalize(w, "hdddddcccccccca"), UNSUPPORTED + " hdddddcccccccca");
        Checks.due("12 forty of two rules", Checks.normalize(w, "ddd" + "c".repeat(13) + "ha"),
                "40 " + "c".repeat(13) + "ddda");
        RuleCompletion y = Checks.with("a0b2c1");
        Checks.equations(y, "cx=bxx");
        y.complete(1);
        Checks.due("12 rule", Checks.rules(y), "cu>buu");
        // c c c a: bccacca, with 7 letters, and then on to 15.
        Checks.due("12 grows", Checks.normalize(y, "ccca"), "7 bbbaabaabbaabaa");
        Checks.due("12 grows beyond", Checks.normalize(y, "cccca"), UNSUPPORTED + " cccca");
        String eleven = "ba".repeat(5) + "a";
        Checks.due("12 23 letters", Checks.normalize(y, "c" + eleven), "1 b" + eleven + eleven);
        Checks.due("12 25 letters", Checks.normalize(y, "bac" + eleven), UNSUPPORTED + " bac" + eleven);
        RuleCompletion z = Checks.with("a0e1b2c1h2");
        Checks.equations(z, "cx=bxx", "hxy=a");
        z.complete(2);
        Checks.due("12 rules", Checks.rules(z), "huv>a cu>buu");
        Checks.due("12 24 letters", Checks.normalize(z, "ec" + eleven), "1 eb" + eleven + eleven);
        Checks.due("12 25 letters again", Checks.normalize(z, "eec" + eleven), UNSUPPORTED + " eec" + eleven);
        // The first letter comes first: what would get too long is gone before it does.
        Checks.due("12 never too long", Checks.normalize(z, "hac" + eleven), "1 a");
        // It would shrink to baa at last, but it gets 27 letters before.
        Checks.due("12 too long in between", Checks.normalize(z, "ch" + eleven + "a"), UNSUPPORTED + " ch" + eleven + "a");
    }

    // ---- 13

    private static void compare() {
        RuleCompletion x = Checks.with("a0b0g1f2h2");
        String[][] due = {
            {"a=a", "0"}, {"x=x", "0"}, {"fxgy=fxgy", "0"},
            {"x=y", "2"}, {"b=a", "1"}, {"a=b", "-1"}, {"a=x", "2"}, {"x=a", "2"},
            {"gx=x", "1"}, {"x=gx", "-1"}, {"gx=y", "2"}, {"fxy=y", "1"}, {"hagfxy=y", "1"},
            // A greater symbol, above all terms of the other.
            {"ga=b", "1"}, {"fab=gb", "1"}, {"fxy=gx", "1"}, {"gx=fxy", "-1"}, {"fxy=gz", "2"}, {"gx=b", "1"},
            {"gggggb=faa", "-1"}, {"ga=gggb", "-1"},
            // The same symbol: the first place where they differ.
            {"fba=fab", "1"}, {"fab=faa", "1"}, {"faa=fab", "-1"}, {"fxy=fyx", "2"}, {"fgxy=fxgy", "1"},
            {"fxgy=fgxy", "-1"}, {"fgxy=fxz", "2"}, {"ffxyz=fxfyz", "1"}, {"fxfyz=ffxyz", "-1"},
            {"gx=gy", "2"}, {"ggx=gx", "1"}, {"fxx=fxy", "2"}, {"fxgy=fxy", "1"},
            // One of the terms is it, or above it.
            {"faga=ga", "1"}, {"gfab=fab", "1"}, {"gfab=faa", "1"}, {"gfxy=fxy", "1"},
            // Not above all terms of the other.
            {"fab=ghaa", "-1"}, {"fba=fahaa", "-1"}, {"hxy=fxfyx", "1"}, {"hxy=hyx", "2"}, {"hgxy=hxfyy", "1"},
            {"hgxy=hxfyz", "2"}, {"hxgy=fgxgy", "1"}, {"hxgy=fgxgz", "2"}, {"fgxgy=hxgy", "-1"},
        };
        for (String[] row : due) {
            Checks.due("13 " + row[0], Checks.compare(x, row[0]).toString(), row[1]);
        }
        Checks.due("13 the draft stays", Checks.draft(x), due[due.length - 1][0]);
        Checks.due("13 nothing else changes", x.waiting() + " " + x.rules(), "0 0");
        String left = "g".repeat(23);
        Checks.due("13 24 letters", Checks.compare(x, left + "a=" + left + "b"), -1);
        Checks.due("13 24 letters with a variable", Checks.compare(x, left + "x=" + left + "b"), 2);
        Checks.equations(x, "x=y");
        x.complete(1);
        Checks.due("13 when FAILED", Checks.compare(x, "b=a"), 1);
        Checks.due("13 rules do not matter", Checks.compare(fullOfRules(), "bba=a"), 1);
    }

    private static void compareWrong() {
        RuleCompletion x = Checks.with("a0b1f2");
        String[] texts = {"", "=", "a", "ba", "a=", "=a", "a=a=a", "fa=a", "a=fa", "aa=a", "aaf=a", "c=a", "a=t", "a>a", "a=a ",
            "b".repeat(24) + "a=a", "a=" + "b".repeat(24) + "a"};
        for (String text : texts) {
            Checks.due("13 wrong: " + text, Checks.compare(x, text), ARGUMENT);
            Checks.due("13 the draft stays: " + text, Checks.draft(x), text);
        }
    }

    // ---- 14

    private static void draft() {
        RuleCompletion x = Checks.with("a0");
        Checks.due("14 empty", (int) x.draft(0), 0);
        Checks.text(x, "a=z");
        Checks.due("14 characters", "" + x.draft(0) + x.draft(1) + x.draft(2), "a=z");
        int[] none = {-1, 3, 59, 60, 61, Integer.MAX_VALUE, Integer.MIN_VALUE};
        for (int i : none) {
            Checks.due("14 none at " + i, (int) x.draft(i), 0);
        }
        Checks.text(x, "ab".repeat(30));
        Checks.due("14 the last of sixty", x.draft(59), 'b');
        Checks.due("14 none behind sixty", (int) x.draft(60), 0);
        Checks.text(x, "a");
        Checks.due("14 nothing is left of the longer one", (int) x.draft(1), 0);
    }

    // ---- 15

    private static void clear() {
        RuleCompletion x = Checks.with("a0b1");
        Checks.equations(x, "bba=a", "bbba=a");
        x.complete(1);
        x.clear();
        Checks.due("15 all gone", x.rules() + " " + x.waiting() + " " + x.steps(), "0 0 0");
        Checks.due("15 DONE", Checks.complete(x, 20), DONE);
        Checks.due("15 the draft stays", Checks.draft(x), "bbba=a");
        Checks.due("15 symbols stay", Checks.of(x::equation), 1);
        Checks.due("15 they are declared still", declare(x, 'b', 1), STATE);
        Checks.due("15 no rule rewrites", Checks.normalize(x, "bba"), "0 bba");
        Checks.equations(x, "x=y");
        Checks.due("15 FAILED", Checks.complete(x, 1), FAILED);
        x.clear();
        Checks.due("15 not FAILED any more", Checks.complete(x, 0), DONE);
        Checks.due("15 an equation again", Checks.equation(x, "bx=x"), 1);
        Checks.due("15 and a step", Checks.complete(x, 1), DONE);
        RuleCompletion y = fullOfRules();
        y.clear();
        Checks.due("15 not FULL any more", Checks.complete(y, 20), DONE);
        Checks.equations(y, "bx=x");
        Checks.due("15 and it works", Checks.complete(y, 20) + " " + Checks.rules(y), "1 bu>u");
        y.clear();
        y.clear();
        Checks.due("15 twice", y.rules() + " " + y.steps(), "0 0");
    }

    // ---- all together

    private static void groups() {
        RuleCompletion x = Checks.with("e0f2g1");
        Checks.equations(x, "feu=u", "fguu=e", "ffuvw=fufvw");
        Object state = RUNNING;
        for (int i = 0; i < 10 && state.equals(RUNNING); i++) {
            state = Checks.complete(x, 20);
        }
        Checks.due("the ten rules of groups are found", state + " " + x.rules(), "1 10");
        Checks.due("inverse of a product", Checks.normalize(x, "gfxy"), "1 fgygx");
        Checks.due("a word", Checks.normalize(x, "ffxgyfyggz").endsWith(" fxz"), true);
        Checks.due("the unit at the right", Checks.normalize(x, "fxe"), "1 x");
        Checks.due("the inverse at the right", Checks.normalize(x, "fxgx"), "1 e");
    }
}
