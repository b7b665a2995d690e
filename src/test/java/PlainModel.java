import java.util.ArrayDeque;
import java.util.ArrayList;
import java.util.Deque;
import java.util.HashMap;
import java.util.LinkedHashMap;
import java.util.List;
import java.util.Map;

/**
 * The document once more, written with Strings, maps and recursion and with no thought of room or
 * speed, so that it shares no way of working with the class that it is compared with. The causes
 * count how often each way of becoming FULL or FAILED, and some rare turns, have been met.
 */
final class PlainModel {
    final Map<String, Integer> causes;

    private final Map<Character, Integer> places = new LinkedHashMap<>();
    private final List<String[]> rules = new ArrayList<>();
    private final List<String[]> waiting = new ArrayList<>();
    private final Map<String, Boolean> above = new HashMap<>();
    private String draft = "";
    private int state = RuleCompletion.RUNNING;
    private int steps = 0;

    /** Thrown where the document says FULL. */
    private static final class Full extends Exception {
        private static final long serialVersionUID = 1L;

        Full(String cause) {
            super(cause);
        }
    }

    PlainModel(Map<String, Integer> causes) {
        this.causes = causes;
    }

    // ---- the calls

    void declare(char letter, int count) {
        if (letter < 'a' || letter > 'h' || count < 0 || count > 2) {
            throw new IllegalArgumentException();
        }
        if (places.containsKey(letter)) {
            throw new IllegalStateException();
        }
        places.put(letter, count);
        above.clear();
    }

    boolean write(long characters) {
        StringBuilder more = new StringBuilder(draft);
        for (int i = 0; i < 8; i++) {
            char c = (char) (characters >>> (8 * i) & 255);
            if (c != 0) {
                more.append(c);
            }
        }
        if (more.length() > 60) {
            return false;
        }
        draft = more.toString();
        return true;
    }

    void wipe() {
        draft = "";
    }

    int equation() {
        String[] pair = readPair();
        if (waiting.size() == 48 || state != RuleCompletion.RUNNING) {
            throw new IllegalStateException();
        }
        waiting.add(renamed(pair[0], pair[1]));
        return waiting.size();
    }

    int complete(int count) {
        if (count < 0 || count > 20) {
            throw new IllegalArgumentException();
        }
        for (int i = 0; i < count && !waiting.isEmpty() && state == RuleCompletion.RUNNING; i++) {
            try {
                step();
            } catch (Full full) {
                note("full: " + full.getMessage());
                state = RuleCompletion.FULL;
            }
        }
        if (state != RuleCompletion.RUNNING) {
            return state;
        }
        return waiting.isEmpty() ? RuleCompletion.DONE : RuleCompletion.RUNNING;
    }

    int steps() {
        return steps;
    }

    int rules() {
        return rules.size();
    }

    int waiting() {
        return waiting.size();
    }

    char rule(int k, int i) {
        return k < 0 || k >= rules.size() ? 0 : at(rules.get(k)[0] + ">" + rules.get(k)[1], i);
    }

    char equationAt(int k, int i) {
        return k < 0 || k >= waiting.size() ? 0 : at(waiting.get(k)[0] + "=" + waiting.get(k)[1], i);
    }

    int normalize() {
        if (!isTerm(draft)) {
            throw new IllegalArgumentException();
        }
        List<String> run = rewritings(draft);
        if (run == null) {
            throw new UnsupportedOperationException();
        }
        draft = run.get(run.size() - 1);
        return run.size() - 1;
    }

    int compare() {
        String[] pair = readPair();
        if (pair[0].equals(pair[1])) {
            return RuleCompletion.SAME;
        }
        if (isAbove(pair[0], pair[1])) {
            return RuleCompletion.ABOVE;
        }
        return isAbove(pair[1], pair[0]) ? RuleCompletion.BELOW : RuleCompletion.NEITHER;
    }

    char draft(int i) {
        return at(draft, i);
    }

    void clear() {
        rules.clear();
        waiting.clear();
        state = RuleCompletion.RUNNING;
        steps = 0;
    }

    // ---- texts

    private static char at(String text, int i) {
        return i < 0 || i >= text.length() ? 0 : text.charAt(i);
    }

    private static boolean isVariable(char c) {
        return c < 'a' || c > 'h';
    }

    private int placesOf(char c) {
        return isVariable(c) ? 0 : places.get(c);
    }

    /** Behind the term that begins at i; -1 if none does. */
    private int end(String text, int i) {
        if (i >= text.length()) {
            return -1;
        }
        char c = text.charAt(i);
        if (c >= 'u' && c <= 'z' || c >= 'A' && c <= 'F') {
            return i + 1;
        }
        if (!places.containsKey(c)) {
            return -1;
        }
        int e = i + 1;
        for (int n = 0; n < places.get(c) && e >= 0; n++) {
            e = end(text, e);
        }
        return e;
    }

    private String subterm(String text, int i) {
        return text.substring(i, end(text, i));
    }

    private List<String> termsOf(String term) {
        List<String> found = new ArrayList<>();
        int i = 1;
        for (int n = 0; n < placesOf(term.charAt(0)); n++) {
            found.add(subterm(term, i));
            i = end(term, i);
        }
        return found;
    }

    private boolean isTerm(String text) {
        return text.length() <= 24 && text.matches("[a-hu-z]+") && end(text, 0) == text.length();
    }

    private String[] readPair() {
        String[] parts = draft.split("=", -1);
        if (parts.length != 2 || !isTerm(parts[0]) || !isTerm(parts[1])) {
            throw new IllegalArgumentException();
        }
        return parts;
    }

    /** Null if there are more than six variables. */
    private static String[] renamed(String left, String right) {
        StringBuilder seen = new StringBuilder();
        StringBuilder text = new StringBuilder();
        for (char c : (left + right).toCharArray()) {
            if (isVariable(c) && seen.indexOf(String.valueOf(c)) < 0) {
                seen.append(c);
            }
            text.append(isVariable(c) ? (char) ('u' + seen.indexOf(String.valueOf(c))) : c);
        }
        String both = text.toString();
        return seen.length() > 6 ? null
                : new String[] {both.substring(0, left.length()), both.substring(left.length())};
    }

    // ---- the order

    private boolean isAbove(String s, String t) {
        String key = s + ">" + t;
        Boolean known = above.get(key);
        if (known == null) {
            known = findAbove(s, t);
            above.put(key, known);
        }
        return known;
    }

    private boolean findAbove(String s, String t) {
        char f = s.charAt(0);
        char g = t.charAt(0);
        if (isVariable(g) && s.indexOf(g) >= 0 && !s.equals(t)) {
            return true;
        }
        if (isVariable(f)) {
            return false;
        }
        for (String part : termsOf(s)) {
            if (part.equals(t) || isAbove(part, t)) {
                return true;
            }
        }
        if (isVariable(g)) {
            return false;
        }
        for (String part : termsOf(t)) {
            if (!isAbove(s, part)) {
                return false;
            }
        }
        if (f != g) {
            List<Character> order = new ArrayList<>(places.keySet());
            return order.indexOf(f) > order.indexOf(g);
        }
        for (int i = 0; i < termsOf(s).size(); i++) {
            String one = termsOf(s).get(i);
            String other = termsOf(t).get(i);
            if (!one.equals(other)) {
                return isAbove(one, other);
            }
        }
        return false;
    }

    // ---- rewriting

    private boolean match(String pattern, String term, Map<Character, String> put) {
        char c = pattern.charAt(0);
        if (isVariable(c)) {
            String before = put.putIfAbsent(c, term);
            return before == null || before.equals(term);
        }
        if (c != term.charAt(0)) {
            return false;
        }
        for (int i = 0; i < termsOf(pattern).size(); i++) {
            if (!match(termsOf(pattern).get(i), termsOf(term).get(i), put)) {
                return false;
            }
        }
        return true;
    }

    private static String putInto(String term, Map<Character, String> put) {
        StringBuilder text = new StringBuilder();
        for (char c : term.toCharArray()) {
            text.append(put.getOrDefault(c, String.valueOf(c)));
        }
        return text.toString();
    }

    private String rewrittenOnce(String term) {
        for (int i = 0; i < term.length(); i++) {
            for (String[] rule : rules) {
                Map<Character, String> put = new HashMap<>();
                if (match(rule[0], subterm(term, i), put)) {
                    return term.substring(0, i) + putInto(rule[1], put) + term.substring(end(term, i));
                }
            }
        }
        return null;
    }

    /** The term, and what each rewriting makes of it; null if it is out of bounds. */
    private List<String> rewritings(String term) {
        List<String> run = new ArrayList<>();
        String now = term;
        while (now != null) {
            if (now.length() > 24) {
                return null;
            }
            if (run.size() == 41) {
                note("more than forty rewritings");
                return null;
            }
            run.add(now);
            now = rewrittenOnce(now);
        }
        if (run.size() == 41) {
            note("just forty rewritings");
        }
        return run;
    }

    private String normalForm(String term, String where) throws Full {
        List<String> run = rewritings(term);
        if (run == null) {
            throw new Full(where);
        }
        return run.get(run.size() - 1);
    }

    // ---- completion

    private static boolean holds(List<String[]> pairs, String[] pair) {
        for (String[] one : pairs) {
            if (one[0].equals(pair[0]) && one[1].equals(pair[1])) {
                return true;
            }
        }
        return false;
    }

    private void add(String left, String right, String where) throws Full {
        String l = normalForm(left, where + ", left side out of bounds");
        String r = normalForm(right, where + ", right side out of bounds");
        if (l.equals(r)) {
            return;
        }
        String[] pair = renamed(l, r);
        if (pair == null) {
            throw new Full(where + ", more than six variables");
        }
        if (holds(waiting, pair)) {
            note("there already");
            return;
        }
        if (holds(waiting, renamed(r, l))) {
            note("there exchanged");
            return;
        }
        if (waiting.size() == 48) {
            throw new Full(where + ", 48 waiting");
        }
        waiting.add(pair);
    }

    private void step() throws Full {
        steps++;
        String[] taken = waiting.get(0);
        for (String[] pair : waiting) {
            if (pair[0].length() + pair[1].length() < taken[0].length() + taken[1].length()) {
                taken = pair;
            }
        }
        waiting.remove(taken);
        String l = normalForm(taken[0], "step, left side out of bounds");
        String r = normalForm(taken[1], "step, right side out of bounds");
        if (l.equals(r)) {
            return;
        }
        String[] fresh;
        if (isAbove(l, r)) {
            fresh = renamed(l, r);
        } else if (isAbove(r, l)) {
            fresh = renamed(r, l);
        } else {
            note("failed");
            state = RuleCompletion.FAILED;
            return;
        }
        if (rules.size() == 14) {
            throw new Full("step, 14 rules");
        }
        enter(fresh);
    }

    private void enter(String[] fresh) throws Full {
        List<String[]> kept = new ArrayList<>();
        for (String[] rule : new ArrayList<>(rules)) {
            for (int i = 0; i < rule[0].length(); i++) {
                if (match(fresh[0], subterm(rule[0], i), new HashMap<>())) {
                    kept.add(rule);
                    rules.remove(rule);
                    note("rule taken away");
                    break;
                }
            }
        }
        rules.add(fresh);
        for (int k = 0; k < rules.size() - 1; k++) {
            String[] rule = rules.get(k);
            String right = normalForm(rule[1], "right side of a rule out of bounds");
            if (!right.equals(rule[1])) {
                note("right side of a rule rewritten");
            }
            rules.set(k, renamed(rule[0], right));
        }
        for (String[] pair : kept) {
            add(pair[0], pair[1], "kept");
        }
        for (String[] rule : new ArrayList<>(rules)) {
            addPairs(fresh, rule);
            if (rule != fresh) {
                addPairs(rule, fresh);
            }
        }
    }

    private void addPairs(String[] a, String[] b) throws Full {
        String left = apart(a[0]);
        String right = apart(a[1]);
        for (int p = a == b ? 1 : 0; p < b[0].length(); p++) {
            if (isVariable(b[0].charAt(p))) {
                continue;
            }
            Map<Character, String> put = unify(subterm(b[0], p), left);
            if (put != null) {
                String inPlace = b[0].substring(0, p) + right + b[0].substring(end(b[0], p));
                add(putInto(inPlace, put), putInto(b[1], put), "pair");
            }
        }
    }

    private static String apart(String term) {
        StringBuilder text = new StringBuilder();
        for (char c : term.toCharArray()) {
            text.append(isVariable(c) ? (char) (c - 'u' + 'A') : c);
        }
        return text.toString();
    }

    /** The most general terms that make both the same, or null. */
    private Map<Character, String> unify(String s, String t) {
        Map<Character, String> put = new HashMap<>();
        Deque<String[]> open = new ArrayDeque<>();
        open.add(new String[] {s, t});
        while (!open.isEmpty()) {
            String[] next = open.poll();
            String a = putInto(next[0], put);
            String b = putInto(next[1], put);
            if (a.equals(b)) {
                continue;
            }
            if (!isVariable(a.charAt(0)) && isVariable(b.charAt(0))) {
                String other = a;
                a = b;
                b = other;
            }
            if (isVariable(a.charAt(0))) {
                if (b.indexOf(a.charAt(0)) >= 0) {
                    note("a variable would come in its own term");
                    return null;
                }
                Map<Character, String> one = Map.of(a.charAt(0), b);
                put.replaceAll((variable, term) -> putInto(term, one));
                put.put(a.charAt(0), b);
            } else if (a.charAt(0) != b.charAt(0)) {
                return null;
            } else {
                for (int i = 0; i < termsOf(a).size(); i++) {
                    open.add(new String[] {termsOf(a).get(i), termsOf(b).get(i)});
                }
            }
        }
        return put;
    }

    private void note(String cause) {
        causes.merge(cause, 1, Integer::sum);
    }
}
