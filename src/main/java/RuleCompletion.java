import java.util.Arrays;

/**
 * Completion of equations between terms: equations are turned into rules by a path order, rules
 * are overlapped, and what comes of that becomes equations again. The document DOC.md has the
 * promises that the calls keep; its words for things are used here as it defines them.
 */
public final class RuleCompletion {
    public static final int RUNNING = 0, DONE = 1, FAILED = 2, FULL = 3;
    public static final int BELOW = -1, SAME = 0, ABOVE = 1, NEITHER = 2;

    private static final int MOST_STEPS = 20;
    private static final int MOST_PLACES = 2;
    private static final int MOST_CHARACTERS = 60;
    private static final int MOST_LETTERS = 24;
    private static final int MOST_REWRITINGS = 40;
    private static final int MOST_RULES = 14;
    private static final int MOST_WAITING = 48;
    private static final int MOST_VARIABLES = 6;

    private static final char FIRST_SYMBOL = 'a';
    private static final char LAST_SYMBOL = 'h';
    private static final char FIRST_VARIABLE = 'u';
    private static final char LAST_VARIABLE = 'z';
    // Two rules that are overlapped have variables of their own: those of the second one are the
    // characters behind z, until the pair that comes of them is renamed.
    private static final int VARIABLE_LETTERS = 2 * MOST_VARIABLES;

    // The characters of a draft are bytes, and all letters of terms are among them.
    private static final int CHARACTERS = 256;
    private static final int BITS_OF_LONG = 64;
    private static final int BITS_OF_BYTE = 8;
    private static final char NO_CHARACTER = 0;

    private static final int OUT_OF_BOUNDS = -1;

    private final Symbols symbols;
    private final Draft text;
    private final Pair typed;
    private final Engine engine;

    public RuleCompletion() {
        Symbols known = new Symbols();
        symbols = known;
        text = new Draft();
        typed = new Pair();
        engine = new Engine(known, new PairList(MOST_RULES));
    }

    public void declare(char letter, int places) throws IllegalArgumentException, IllegalStateException {
        if (letter < FIRST_SYMBOL || letter > LAST_SYMBOL || places < 0 || places > MOST_PLACES) {
            throw new IllegalArgumentException("a symbol is one of a .. h and has 0 .. 2 places");
        }
        if (symbols.has(letter)) {
            throw new IllegalStateException("the symbol is declared already");
        }
        symbols.enter(letter, places);
    }

    public boolean write(long characters) {
        return text.append(characters);
    }

    public void wipe() {
        text.length = 0;
    }

    public int equation() throws IllegalArgumentException, IllegalStateException {
        if (!text.readPair(symbols, typed)) {
            throw new IllegalArgumentException("the draft is not two terms with = between them");
        }
        if (engine.state != RUNNING || engine.equations.isFull()) {
            throw new IllegalStateException("no equation can come any more");
        }
        engine.accept(typed);
        return engine.equations.count;
    }

    public int complete(int steps) throws IllegalArgumentException {
        if (steps < 0 || steps > MOST_STEPS) {
            throw new IllegalArgumentException("the number of steps is not 0 .. 20");
        }
        for (int i = 0; i < steps && engine.canStep(); i++) {
            engine.step();
        }
        if (engine.state != RUNNING) {
            return engine.state;
        }
        return engine.equations.count > 0 ? RUNNING : DONE;
    }

    public int steps() {
        return engine.stepsMade;
    }

    public int rules() {
        return engine.ruleList.count;
    }

    public int waiting() {
        return engine.equations.count;
    }

    public char rule(int k, int i) {
        return engine.ruleList.characterAt(k, i, '>');
    }

    public char equationAt(int k, int i) {
        return engine.equations.characterAt(k, i, '=');
    }

    public int normalize() throws IllegalArgumentException, UnsupportedOperationException {
        Term term = typed.left;
        if (!text.readTerm(symbols, 0, text.length, term)) {
            throw new IllegalArgumentException("the draft is not a term");
        }
        int rewritings = engine.rewriter.toNormalForm(term);
        if (rewritings == OUT_OF_BOUNDS) {
            throw new UnsupportedOperationException("the term is out of bounds");
        }
        text.become(term);
        return rewritings;
    }

    public int compare() throws IllegalArgumentException {
        if (!text.readPair(symbols, typed)) {
            throw new IllegalArgumentException("the draft is not two terms with = between them");
        }
        return engine.order.between(typed.left, typed.right);
    }

    public char draft(int i) {
        return i >= 0 && i < text.length ? text.characters[i] : NO_CHARACTER;
    }

    public void clear() {
        engine.forget();
    }

    private static boolean isVariable(char letter) {
        return letter >= FIRST_VARIABLE;
    }

    /** The declared symbols. */
    private static final class Symbols {
        // By letter. A variable has no places, so that it needs no case of its own.
        private final int[] places = new int[CHARACTERS];
        // By letter: 0 for one that is not declared; of two symbols that of the higher rank is greater.
        private final int[] ranks = new int[CHARACTERS];
        private int declared = 0;

        void enter(char letter, int count) {
            if (letter < CHARACTERS) {
                declared++;
                ranks[letter] = declared;
                places[letter] = count;
            }
        }

        boolean has(char letter) {
            return rankOf(letter) > 0;
        }

        int rankOf(char letter) {
            return letter < CHARACTERS ? ranks[letter] : 0;
        }

        int placesOf(char letter) {
            return letter < CHARACTERS ? places[letter] : 0;
        }

        /** Tells for each of the letters from .. to - 1, which are the text of a term, where its subterm is over. */
        void findEnds(char[] letters, int from, int to, int[] ends) {
            for (int i = to - 1; i >= from; i--) {
                int end = i + 1;
                for (int n = placesOf(letters[i]); n > 0 && end < to; n--) {
                    end = ends[end];
                }
                ends[i] = end;
            }
        }
    }

    /** The text of a term. One with more letters than a term may have is TOO LONG: the rest of it is lost. */
    private static final class Term {
        private final char[] letters = new char[MOST_LETTERS];
        private int size = 0;

        boolean isTooLong() {
            return size > MOST_LETTERS;
        }

        void append(char letter) {
            if (size < MOST_LETTERS) {
                letters[size] = letter;
            }
            // One letter above the limit tells that it is too long; more of them tell nothing new.
            if (size <= MOST_LETTERS) {
                size++;
            }
        }

        void appendPart(Term other, int from, int to) {
            for (int i = from; i < to && i < MOST_LETTERS; i++) {
                append(other.letters[i]);
            }
        }

        void copy(Term other) {
            System.arraycopy(other.letters, 0, letters, 0, MOST_LETTERS);
            size = other.size;
        }

        boolean isSame(Term other) {
            return size == other.size && isSamePart(0, other, 0, size);
        }

        /** Whether so many letters from the one place on are those from the other place on. */
        boolean isSamePart(int from, Term other, int otherFrom, int length) {
            if (from + length > MOST_LETTERS || otherFrom + length > MOST_LETTERS) {
                return false;
            }
            for (int i = 0; i < length; i++) {
                if (letters[from + i] != other.letters[otherFrom + i]) {
                    return false;
                }
            }
            return true;
        }
    }

    /** A left term and a right one: an equation, or a rule. */
    private static final class Pair {
        private final Term left = new Term();
        private final Term right = new Term();

        void copy(Pair other) {
            left.copy(other.left);
            right.copy(other.right);
        }

        void copyExchanged(Pair other) {
            left.copy(other.right);
            right.copy(other.left);
        }

        boolean isSame(Pair other) {
            return left.isSame(other.left) && right.isSame(other.right);
        }

        int size() {
            return left.size + right.size;
        }

        char characterAt(int i, char between) {
            if (i < 0 || i > size()) {
                return NO_CHARACTER;
            }
            if (i == left.size) {
                return between;
            }
            return i < left.size ? left.letters[i] : right.letters[i - left.size - 1];
        }
    }

    /** Pairs in an order. Their rows are made once, and used again for those that come later. */
    private static final class PairList {
        private final Pair[] pairs;
        private int count = 0;

        PairList(int most) {
            pairs = new Pair[most];
            for (int i = 0; i < most; i++) {
                pairs[i] = new Pair();
            }
        }

        boolean isFull() {
            return count >= pairs.length;
        }

        void add(Pair pair) {
            if (!isFull()) {
                pairs[count].copy(pair);
                count++;
            }
        }

        void remove(int k) {
            if (k < 0 || k >= count) {
                return;
            }
            Pair gone = pairs[k];
            for (int i = k; i < count - 1; i++) {
                pairs[i] = pairs[i + 1];
            }
            count--;
            pairs[count] = gone;
        }

        boolean contains(Pair pair) {
            for (int i = 0; i < count; i++) {
                if (pairs[i].isSame(pair)) {
                    return true;
                }
            }
            return false;
        }

        int findShortest() {
            int best = 0;
            for (int i = 1; i < count; i++) {
                if (pairs[i].size() < pairs[best].size()) {
                    best = i;
                }
            }
            return best;
        }

        char characterAt(int k, int i, char between) {
            return k >= 0 && k < count ? pairs[k].characterAt(i, between) : NO_CHARACTER;
        }
    }

    /** The text that is being written, and how terms are read from it. */
    private static final class Draft {
        private final char[] characters = new char[MOST_CHARACTERS];
        private int length = 0;

        boolean append(long bytes) {
            int more = 0;
            for (int shift = 0; shift < BITS_OF_LONG; shift += BITS_OF_BYTE) {
                more += byteAt(bytes, shift) != NO_CHARACTER ? 1 : 0;
            }
            if (length + more > MOST_CHARACTERS) {
                return false;
            }
            for (int shift = 0; shift < BITS_OF_LONG; shift += BITS_OF_BYTE) {
                if (byteAt(bytes, shift) != NO_CHARACTER) {
                    characters[length] = byteAt(bytes, shift);
                    length++;
                }
            }
            return true;
        }

        private static char byteAt(long bytes, int shift) {
            return (char) ((bytes >>> shift) & 0xFF);
        }

        void become(Term term) {
            for (int i = 0; i < term.size && i < MOST_LETTERS; i++) {
                characters[i] = term.letters[i];
            }
            length = term.size;
        }

        boolean readPair(Symbols symbols, Pair pair) {
            int middle = 0;
            while (middle < length && characters[middle] != '=') {
                middle++;
            }
            return readTerm(symbols, 0, middle, pair.left)
                    && readTerm(symbols, middle + 1, length, pair.right);
        }

        /** Whether the characters from .. to - 1 are the text of a term that is not too long. */
        boolean readTerm(Symbols symbols, int from, int to, Term term) {
            term.size = 0;
            int missing = 1;
            for (int i = from; i < to; i++) {
                char letter = characters[i];
                boolean known = symbols.has(letter) || isVariable(letter) && letter <= LAST_VARIABLE;
                if (!known || missing == 0) {
                    return false;
                }
                missing += symbols.placesOf(letter) - 1;
                term.append(letter);
            }
            return missing == 0 && !term.isTooLong();
        }
    }

    /** Puts u, v, w, .. for the variables of a pair. */
    private static final class Renaming {
        // By variable: 0 for one that has not come yet, 1 for that which becomes u, and so on.
        private final int[] numbers = new int[VARIABLE_LETTERS];
        private int variables = 0;

        /** How many variables the pair has. More of them than a pair may have are renamed all the same. */
        int rename(Pair pair) {
            Arrays.fill(numbers, 0);
            variables = 0;
            renameSide(pair.left);
            renameSide(pair.right);
            return variables;
        }

        private void renameSide(Term term) {
            for (int i = 0; i < term.size && i < MOST_LETTERS; i++) {
                if (isVariable(term.letters[i])) {
                    term.letters[i] = newName(term.letters[i] - FIRST_VARIABLE);
                }
            }
        }

        private char newName(int variable) {
            if (numbers[variable] == 0) {
                variables++;
                numbers[variable] = variables;
            }
            return (char) (FIRST_VARIABLE + numbers[variable] - 1);
        }
    }

    /** The path order. */
    private static final class PathOrder {
        private final Symbols symbols;
        private final Term upper = new Term();
        private final Term lower = new Term();
        private final int[] upperEnds = new int[MOST_LETTERS];
        private final int[] lowerEnds = new int[MOST_LETTERS];
        // For each subterm of the upper term and each one of the lower term, whether that is above
        // this. Recursion would ask for the same two again and again, beyond all measure.
        private final boolean[] table = new boolean[MOST_LETTERS * MOST_LETTERS];

        PathOrder(Symbols symbols) {
            this.symbols = symbols;
        }

        int between(Term left, Term right) {
            if (left.isSame(right)) {
                return SAME;
            }
            if (isAbove(left, right)) {
                return ABOVE;
            }
            return isAbove(right, left) ? BELOW : NEITHER;
        }

        private boolean isAbove(Term high, Term low) {
            upper.copy(high);
            lower.copy(low);
            symbols.findEnds(upper.letters, 0, upper.size, upperEnds);
            symbols.findEnds(lower.letters, 0, lower.size, lowerEnds);
            // Backwards, since the terms of a symbol stand behind it.
            for (int i = upper.size - 1; i >= 0; i--) {
                for (int j = lower.size - 1; j >= 0; j--) {
                    table[i * MOST_LETTERS + j] = isAboveByTerm(i, j) || isAboveByLetters(i, j);
                }
            }
            return table[0];
        }

        /**
         * Whether one of the terms of the subterm at i is that at j, or above it. A variable that
         * comes in the subterm at i is found so too: it needs no look of its own.
         */
        private boolean isAboveByTerm(int i, int j) {
            int term = i + 1;
            for (int n = symbols.placesOf(upper.letters[i]); n > 0; n--) {
                if (table[term * MOST_LETTERS + j] || isSameAt(term, j)) {
                    return true;
                }
                term = upperEnds[term];
            }
            return false;
        }

        private boolean isAboveByLetters(int i, int j) {
            char high = upper.letters[i];
            char low = lower.letters[j];
            if (isVariable(high) || isVariable(low) || !isAboveAllTerms(i, j)) {
                return false;
            }
            return high == low ? isAboveInFirstDifference(i, j) : symbols.rankOf(high) > symbols.rankOf(low);
        }

        private boolean isAboveAllTerms(int i, int j) {
            int term = j + 1;
            for (int n = symbols.placesOf(lower.letters[j]); n > 0; n--) {
                if (!table[i * MOST_LETTERS + term]) {
                    return false;
                }
                term = lowerEnds[term];
            }
            return true;
        }

        private boolean isAboveInFirstDifference(int i, int j) {
            int high = i + 1;
            int low = j + 1;
            for (int n = symbols.placesOf(upper.letters[i]); n > 0; n--) {
                if (!isSameAt(high, low)) {
                    return table[high * MOST_LETTERS + low];
                }
                high = upperEnds[high];
                low = lowerEnds[low];
            }
            return false;
        }

        private boolean isSameAt(int i, int j) {
            int length = upperEnds[i] - i;
            return length == lowerEnds[j] - j && upper.isSamePart(i, lower, j, length);
        }
    }

    /** Rewriting by the rules that there are. */
    private static final class Rewriter {
        private final Symbols symbols;
        private final PairList ruleList;
        private final int[] ends = new int[MOST_LETTERS];
        // By variable: where in the term that begins which is put for it; -1 while nothing is.
        private final int[] begins = new int[MOST_VARIABLES];
        private final Term result = new Term();
        private int place = 0;

        Rewriter(Symbols symbols, PairList ruleList) {
            this.symbols = symbols;
            this.ruleList = ruleList;
        }

        /** Rewrites the term where it stands: how often, or OUT_OF_BOUNDS, and then it is spoilt. */
        int toNormalForm(Term term) {
            for (int count = 0; count <= MOST_REWRITINGS && !term.isTooLong(); count++) {
                int number = findRule(term);
                if (number < 0) {
                    return count;
                }
                replace(term, ruleList.pairs[number].right);
            }
            return OUT_OF_BOUNDS;
        }

        boolean hasInstance(Term term, Term pattern) {
            symbols.findEnds(term.letters, 0, term.size, ends);
            for (int i = 0; i < term.size; i++) {
                if (isInstance(term, i, pattern)) {
                    return true;
                }
            }
            return false;
        }

        /** The number of the rule that rewrites the term, or -1. Where it does so is kept in place. */
        private int findRule(Term term) {
            symbols.findEnds(term.letters, 0, term.size, ends);
            for (int i = 0; i < term.size; i++) {
                for (int k = 0; k < ruleList.count; k++) {
                    if (isInstance(term, i, ruleList.pairs[k].left)) {
                        place = i;
                        return k;
                    }
                }
            }
            return -1;
        }

        private boolean isInstance(Term term, int from, Term pattern) {
            // No left side is a variable, so most are refused here, before the row is made ready.
            if (term.letters[from] != pattern.letters[0]) {
                return false;
            }
            Arrays.fill(begins, -1);
            int at = from;
            for (int i = 0; i < pattern.size; i++) {
                char letter = pattern.letters[i];
                if (at >= term.size || !isVariable(letter) && letter != term.letters[at]) {
                    return false;
                }
                if (!isVariable(letter)) {
                    at++;
                    continue;
                }
                int variable = letter - FIRST_VARIABLE;
                // A text of a term is never the beginning of another one's: one length is enough.
                int length = ends[at] - at;
                if (begins[variable] < 0) {
                    begins[variable] = at;
                } else if (!term.isSamePart(at, term, begins[variable], length)) {
                    return false;
                }
                at += length;
            }
            return true;
        }

        private void replace(Term term, Term by) {
            result.size = 0;
            result.appendPart(term, 0, place);
            for (int i = 0; i < by.size; i++) {
                char letter = by.letters[i];
                int begin = isVariable(letter) ? begins[letter - FIRST_VARIABLE] : -1;
                if (begin >= 0) {
                    result.appendPart(term, begin, ends[begin]);
                } else {
                    result.append(letter);
                }
            }
            result.appendPart(term, ends[place], term.size);
            term.copy(result);
        }
    }

    /**
     * The pairs of an upper rule on a lower one. The letters of both are nodes, and so are their
     * variables; nodes that have to become the same come into one class. Nothing is put for a
     * variable before all has been found to fit, since what is put can be very long.
     */
    private static final class Overlap {
        private static final int UPPER_LEFT = 0;
        private static final int UPPER_RIGHT = MOST_LETTERS;
        private static final int LOWER_LEFT = 2 * MOST_LETTERS;
        private static final int LOWER_RIGHT = 3 * MOST_LETTERS;
        private static final int LETTERS = 4 * MOST_LETTERS;
        private static final int NODES = LETTERS + VARIABLE_LETTERS;

        private final Symbols symbols;
        private final char[] letters = new char[LETTERS];
        private final int[] ends = new int[LETTERS];
        // The node that a letter is: its own one, or that of its variable.
        private final int[] nodes = new int[LETTERS];
        // The way from a node to that which stands for its class: a symbol, if there is one in it.
        private final int[] parents = new int[NODES];
        private final boolean[] settled = new boolean[NODES];
        private final int[] stack = new int[2 * NODES];
        private int depth = 0;
        private int upperLeftEnd = 0;
        private int upperRightEnd = 0;
        private int lowerLeftEnd = 0;
        private int lowerRightEnd = 0;

        Overlap(Symbols symbols) {
            this.symbols = symbols;
        }

        void begin(Pair upper, Pair lower) {
            upperLeftEnd = lay(upper.left, UPPER_LEFT, 0);
            upperRightEnd = lay(upper.right, UPPER_RIGHT, 0);
            lowerLeftEnd = lay(lower.left, LOWER_LEFT, MOST_VARIABLES);
            lowerRightEnd = lay(lower.right, LOWER_RIGHT, MOST_VARIABLES);
        }

        private int lay(Term term, int from, int shift) {
            int end = from + term.size;
            for (int i = from; i < end; i++) {
                char letter = term.letters[i - from];
                letters[i] = letter;
                nodes[i] = isVariable(letter) ? LETTERS + shift + letter - FIRST_VARIABLE : i;
            }
            symbols.findEnds(letters, from, end, ends);
            return end;
        }

        /** Whether there is a pair for letter p of the lower left side. A side of it can be too long. */
        boolean findPair(int p, Pair pair) {
            int place = LOWER_LEFT + p;
            // No left side is a variable, so this passes over those of the lower one too.
            if (place >= lowerLeftEnd || letters[place] != letters[UPPER_LEFT]) {
                return false;
            }
            if (!canMerge(UPPER_LEFT, place) || !isFinite(place)) {
                return false;
            }
            pair.left.size = 0;
            appendTerms(LOWER_LEFT, place, pair.left);
            appendTerms(UPPER_RIGHT, upperRightEnd, pair.left);
            appendTerms(ends[place], lowerLeftEnd, pair.left);
            pair.right.size = 0;
            appendTerms(LOWER_RIGHT, lowerRightEnd, pair.right);
            return true;
        }

        private int classOf(int letter) {
            int node = nodes[letter];
            for (int i = 0; i < NODES && parents[node] != node; i++) {
                node = parents[node];
            }
            return node;
        }

        private boolean canMerge(int one, int other) {
            for (int i = 0; i < NODES; i++) {
                parents[i] = i;
            }
            depth = 0;
            pushBoth(one, other);
            // A round takes two letters away. It brings four at most, and those only if it makes
            // one class of two, so that the rounds end long before their bound.
            for (int round = 0; round < 4 * NODES && depth > 1; round++) {
                depth -= 2;
                if (!canJoin(classOf(stack[depth]), classOf(stack[depth + 1]))) {
                    return false;
                }
            }
            return depth == 0;
        }

        private boolean canJoin(int a, int b) {
            if (a == b) {
                return true;
            }
            if (a >= LETTERS) {
                parents[a] = b;
                return true;
            }
            if (b >= LETTERS) {
                parents[b] = a;
                return true;
            }
            if (letters[a] != letters[b]) {
                return false;
            }
            parents[b] = a;
            pushTerms(a, b);
            return true;
        }

        private void pushTerms(int a, int b) {
            int one = a + 1;
            int other = b + 1;
            for (int n = symbols.placesOf(letters[a]); n > 0; n--) {
                pushBoth(one, other);
                one = ends[one];
                other = ends[other];
            }
        }

        private void pushBoth(int one, int other) {
            if (depth + 1 < stack.length) {
                stack[depth] = one;
                stack[depth + 1] = other;
                depth += 2;
            }
        }

        /** Whether no variable has to stand for a longer term in which it comes itself. */
        private boolean isFinite(int place) {
            for (int i = 0; i < NODES; i++) {
                settled[i] = i >= LETTERS;
            }
            boolean more = true;
            for (int round = 0; round < NODES && more; round++) {
                boolean inLower = settleMore(place, ends[place]);
                boolean inUpper = settleMore(UPPER_LEFT, upperLeftEnd);
                more = inLower || inUpper;
            }
            return settled[classOf(place)];
        }

        /** Settles classes whose terms are settled. In a circle of classes this never begins. */
        private boolean settleMore(int from, int to) {
            boolean more = false;
            for (int i = to - 1; i >= from; i--) {
                if (!settled[i] && classOf(i) == i && hasSettledTerms(i)) {
                    settled[i] = true;
                    more = true;
                }
            }
            return more;
        }

        private boolean hasSettledTerms(int i) {
            int term = i + 1;
            for (int n = symbols.placesOf(letters[i]); n > 0; n--) {
                if (!settled[classOf(term)]) {
                    return false;
                }
                term = ends[term];
            }
            return true;
        }

        private void appendTerms(int from, int to, Term side) {
            for (int i = from; i < to; i++) {
                if (isVariable(letters[i])) {
                    appendTermOf(i, side);
                } else {
                    side.append(letters[i]);
                }
            }
        }

        /** Appends what is put for a variable. */
        private void appendTermOf(int variable, Term side) {
            stack[0] = variable;
            depth = 1;
            // Every round appends a letter: with the last one the side has become too long.
            for (int round = 0; round <= MOST_LETTERS && depth > 0; round++) {
                depth--;
                int node = classOf(stack[depth]);
                if (node >= LETTERS) {
                    side.append((char) (FIRST_VARIABLE + node - LETTERS));
                } else {
                    side.append(letters[node]);
                    pushTermsBackwards(node);
                }
            }
        }

        private void pushTermsBackwards(int node) {
            int places = symbols.placesOf(letters[node]);
            if (places == 2) {
                stack[depth] = ends[node + 1];
                depth++;
            }
            if (places > 0) {
                stack[depth] = node + 1;
                depth++;
            }
        }
    }

    /** The rules, the waiting equations, and the steps that make the ones of the others. */
    private static final class Engine {
        private final PairList ruleList;
        private final PairList equations = new PairList(MOST_WAITING);
        private final PairList kept = new PairList(MOST_RULES);
        private final Rewriter rewriter;
        private final PathOrder order;
        private final Overlap overlap;
        private final Renaming renaming = new Renaming();
        private final Pair hand = new Pair();
        private final Pair turned = new Pair();
        private final Term side = new Term();
        private int state = RUNNING;
        private int stepsMade = 0;

        Engine(Symbols symbols, PairList ruleRows) {
            ruleList = ruleRows;
            rewriter = new Rewriter(symbols, ruleRows);
            order = new PathOrder(symbols);
            overlap = new Overlap(symbols);
        }

        void forget() {
            ruleList.count = 0;
            equations.count = 0;
            state = RUNNING;
            stepsMade = 0;
        }

        void accept(Pair pair) {
            renaming.rename(pair);
            equations.add(pair);
        }

        boolean canStep() {
            return state == RUNNING && equations.count > 0;
        }

        void step() {
            stepsMade++;
            int k = equations.findShortest();
            hand.copy(equations.pairs[k]);
            equations.remove(k);
            if (rewriter.toNormalForm(hand.left) == OUT_OF_BOUNDS
                    || rewriter.toNormalForm(hand.right) == OUT_OF_BOUNDS) {
                state = FULL;
                return;
            }
            int direction = order.between(hand.left, hand.right);
            if (direction == SAME) {
                return;
            }
            if (direction == NEITHER) {
                state = FAILED;
                return;
            }
            if (ruleList.isFull()) {
                state = FULL;
                return;
            }
            enterRule(direction);
            if (!settleRightSides() || !addKept() || !addOverlaps()) {
                state = FULL;
            }
        }

        /** Makes the pair at hand the newest rule; the rules whose left sides it rewrites are kept aside. */
        private void enterRule(int direction) {
            if (direction == ABOVE) {
                turned.copy(hand);
            } else {
                turned.copyExchanged(hand);
            }
            renaming.rename(turned);
            kept.count = 0;
            int k = 0;
            for (int n = ruleList.count; n > 0; n--) {
                if (rewriter.hasInstance(ruleList.pairs[k].left, turned.left)) {
                    kept.add(ruleList.pairs[k]);
                    ruleList.remove(k);
                } else {
                    k++;
                }
            }
            ruleList.add(turned);
        }

        /**
         * Brings the right sides of the older rules to their normal forms; false, as below too, when
         * that is where it is FULL. The rules stay renamed, since the variables of a right side all
         * come in the left one.
         */
        private boolean settleRightSides() {
            for (int k = 0; k < ruleList.count - 1; k++) {
                side.copy(ruleList.pairs[k].right);
                if (rewriter.toNormalForm(side) == OUT_OF_BOUNDS) {
                    return false;
                }
                ruleList.pairs[k].right.copy(side);
            }
            return true;
        }

        private boolean addKept() {
            for (int i = 0; i < kept.count; i++) {
                hand.copy(kept.pairs[i]);
                if (!addHand()) {
                    return false;
                }
            }
            return true;
        }

        /** For each older rule the newest one on it and then it on the newest one, and this on itself last. */
        private boolean addOverlaps() {
            int last = ruleList.count - 1;
            for (int i = 0; i <= 2 * last; i++) {
                int upper = i % 2 == 0 ? last : i / 2;
                int lower = i % 2 == 0 ? i / 2 : last;
                overlap.begin(ruleList.pairs[upper], ruleList.pairs[lower]);
                for (int p = upper == lower ? 1 : 0; p < MOST_LETTERS; p++) {
                    if (overlap.findPair(p, hand) && !addHand()) {
                        return false;
                    }
                }
            }
            return true;
        }

        /** Adds the pair at hand. */
        private boolean addHand() {
            if (rewriter.toNormalForm(hand.left) == OUT_OF_BOUNDS
                    || rewriter.toNormalForm(hand.right) == OUT_OF_BOUNDS) {
                return false;
            }
            if (hand.left.isSame(hand.right)) {
                return true;
            }
            if (renaming.rename(hand) > MOST_VARIABLES) {
                return false;
            }
            turned.copyExchanged(hand);
            renaming.rename(turned);
            if (equations.contains(hand) || equations.contains(turned)) {
                return true;
            }
            if (equations.isFull()) {
                return false;
            }
            equations.add(hand);
            return true;
        }
    }
}
