import java.util.NoSuchElementException;

/**
 * A parser for grammars of single characters that may be ambiguous: it counts
 * the derivations of an input and keeps the heaviest one as a tree.
 */
public final class SpanParser {
    private static final int NONTERMINALS = 6;
    private static final int MOST_RULES = 16;
    private static final int MOST_SYMBOLS = 4;
    private static final int MOST_USES = MOST_RULES * MOST_SYMBOLS;
    private static final int LONGEST_TEXT = 14;
    private static final int SHORTEST_RULE = 3;
    private static final int LONGEST_RULE = 2 + MOST_SYMBOLS;
    private static final int SPANS = LONGEST_TEXT * (LONGEST_TEXT + 1) / 2;
    // Three cuts among the thirteen places inside the longest input.
    private static final int MOST_DIVISIONS = 286;
    // Chains never lead round, so at most one rule of each nonterminal stands
    // over one span; a tree over the longest input has 2 * 14 - 1 spans.
    private static final int MOST_NODES = NONTERMINALS * (2 * LONGEST_TEXT - 1);
    private static final long MOST_WAYS = 1000000000L;

    private static final int FIRST_CHARACTER = 33;
    private static final int LAST_CHARACTER = 126;
    private static final int CHARACTERS = LAST_CHARACTER - FIRST_CHARACTER + 1;

    private static final int PLAIN = 0;
    private static final int REJECTING = 1;
    private static final int LEANS_LEFT = 2;
    private static final int LEANS_RIGHT = 3;

    private static final int NONE = -1;

    private final Text text = new Text();
    private final Grammar grammar = new Grammar();
    private final Chart chart = new Chart();
    private final Tree tree = new Tree();
    private int misreadPlace = NONE;
    private int inputLength = 0;
    private double treeWeight = 0.0;

    public SpanParser() {
    }

    public int type(long eight) throws IllegalArgumentException, IllegalStateException {
        int added = 0;
        for (int shift = 56; shift >= 0; shift -= 8) {
            int c = byteAt(eight, shift);
            if (c != 0) {
                if (!isCharacter(c)) {
                    throw new IllegalArgumentException();
                }
                added++;
            }
        }
        if (text.length() + added > LONGEST_TEXT) {
            throw new IllegalStateException();
        }
        for (int shift = 56; shift >= 0; shift -= 8) {
            int c = byteAt(eight, shift);
            if (c != 0) {
                text.append(c);
            }
        }
        return text.length();
    }

    public int rule(double weight)
            throws IllegalArgumentException, IllegalStateException, UnsupportedOperationException {
        // Asked this way round so that a weight that is no number is out of range too.
        if (!(weight >= 0.125 && weight <= 8.0)) {
            throw new IllegalArgumentException();
        }
        if (grammar.size() >= MOST_RULES) {
            text.clear();
            throw new IllegalStateException();
        }
        int wrongPlace = Grammar.wrongPlace(text);
        if (wrongPlace != NONE) {
            misreadPlace = wrongPlace;
            text.clear();
            throw new IllegalArgumentException();
        }
        if (grammar.wouldLeadRound(text)) {
            text.clear();
            throw new UnsupportedOperationException();
        }
        grammar.add(text, weight);
        text.clear();
        forgetInput();
        return grammar.size() - 1;
    }

    public void mark(int r, int how) throws IllegalArgumentException {
        if (!grammar.has(r) || how < PLAIN || how > LEANS_RIGHT) {
            throw new IllegalArgumentException();
        }
        grammar.setMark(r, how);
        forgetInput();
    }

    public void bar(int r, int s, boolean barred) throws IllegalArgumentException {
        if (!grammar.has(r) || !grammar.has(s)) {
            throw new IllegalArgumentException();
        }
        grammar.setBarred(r, s, barred);
        forgetInput();
    }

    public void follow(int n, int c, boolean may) throws IllegalArgumentException {
        if (!isNonterminalNumber(n) || !isCharacter(c)) {
            throw new IllegalArgumentException();
        }
        grammar.setMayFollow(n, c, may);
        forgetInput();
    }

    public void undo() throws NoSuchElementException {
        if (grammar.size() == 0) {
            throw new NoSuchElementException();
        }
        grammar.removeLatest();
        forgetInput();
    }

    public int parse(int n) throws IllegalArgumentException, NoSuchElementException {
        if (!isNonterminalNumber(n) || text.length() == 0) {
            throw new IllegalArgumentException();
        }
        forgetInput();
        inputLength = text.length();
        chart.fill(grammar, text);
        int whole = spanNumber(0, inputLength);
        // Nothing stands behind the whole input, so only a rejecting rule can spoil it.
        boolean good = chart.waysOfAny(grammar.rejectingRules(n), whole) == 0;
        int derivingRules = grammar.derivingRules(n);
        int ways = good ? chart.waysOfAny(derivingRules, whole) : 0;
        text.clear();
        if (ways == 0) {
            throw new NoSuchElementException();
        }
        int root = chart.heaviestOf(derivingRules, whole);
        treeWeight = chart.heaviestWeight(root, whole);
        tree.grow(grammar, chart, root, inputLength);
        return ways;
    }

    public double weight() throws NoSuchElementException {
        if (tree.size() == 0) {
            throw new NoSuchElementException();
        }
        return treeWeight;
    }

    public int node(int k, int what) throws IllegalArgumentException, NoSuchElementException {
        if (what < 0 || what > 3) {
            throw new IllegalArgumentException();
        }
        if (k < 0 || k >= tree.size()) {
            throw new NoSuchElementException();
        }
        switch (what) {
            case 0:
                return tree.ruleAt(k);
            case 1:
                return tree.beginAt(k);
            case 2:
                return tree.endAt(k);
            default:
                return tree.nodesBelow(k);
        }
    }

    public int many(int r, int i, int j) throws IllegalArgumentException, NoSuchElementException {
        if (!grammar.has(r)) {
            throw new IllegalArgumentException();
        }
        // Without an input its length is 0, and then no span is there.
        if (i < 0 || j > inputLength || i >= j) {
            throw new NoSuchElementException();
        }
        return chart.waysOf(r, spanNumber(i, j));
    }

    public int count(int what) {
        switch (what) {
            case 0:
                return grammar.size();
            case 1:
                return misreadPlace;
            case 2:
                return text.length();
            case 3:
                return tree.size();
            case 4:
                return inputLength;
            default:
                return -1;
        }
    }

    private void forgetInput() {
        inputLength = 0;
        treeWeight = 0.0;
        tree.clear();
    }

    private static int byteAt(long eight, int shift) {
        return (int) (eight >>> shift) & 255;
    }

    private static boolean isCharacter(int c) {
        return c >= FIRST_CHARACTER && c <= LAST_CHARACTER;
    }

    private static boolean isNonterminalNumber(int n) {
        return n >= 0 && n < NONTERMINALS;
    }

    /** The number of the nonterminal that the character names, or NONE. */
    private static int nonterminalNumber(int c) {
        return c >= 'A' && c <= 'F' ? c - 'A' : NONE;
    }

    private static boolean contains(int set, int member) {
        return (set & (1 << member)) != 0;
    }

    /** Numbers the spans 0 to SPANS - 1, for 0 <= begin < end <= LONGEST_TEXT. */
    private static int spanNumber(int begin, int end) {
        return end * (end - 1) / 2 + begin;
    }

    /** What has been typed and not yet been used. */
    private static final class Text {
        private final int[] characters = new int[LONGEST_TEXT];
        private int length = 0;

        int length() {
            return length;
        }

        int at(int place) {
            return place >= 0 && place < length ? characters[place] : 0;
        }

        void append(int c) {
            if (length < LONGEST_TEXT) {
                characters[length] = c;
                length++;
            }
        }

        void clear() {
            length = 0;
        }
    }

    /** The rules with their marks and bars, and what may not follow. Sets of rules are bits of an int. */
    private static final class Grammar {
        private final int[] lefts = new int[MOST_RULES];
        private final int[] rightLengths = new int[MOST_RULES];
        private final int[] rights = new int[MOST_USES];
        private final double[] weights = new double[MOST_RULES];
        private final int[] marks = new int[MOST_RULES];
        private final int[] barredUnder = new int[MOST_RULES];
        private final boolean[] mayNotFollow = new boolean[NONTERMINALS * CHARACTERS];
        private int size = 0;

        /** The place where the text stops being a rule, or NONE if it is one. */
        static int wrongPlace(Text text) {
            for (int place = 0; place < text.length(); place++) {
                if (!fits(place, text.at(place))) {
                    return place;
                }
            }
            return text.length() < SHORTEST_RULE ? text.length() : NONE;
        }

        private static boolean fits(int place, int c) {
            if (place == 0) {
                return nonterminalNumber(c) != NONE;
            }
            if (place == 1) {
                return c == ':';
            }
            return place < LONGEST_RULE && c != ':' && (c < 'G' || c > 'Z');
        }

        int size() {
            return size;
        }

        boolean has(int r) {
            return r >= 0 && r < size;
        }

        /** For a text that is a rule. */
        boolean wouldLeadRound(Text text) {
            int from = nonterminalNumber(text.at(0));
            int to = nonterminalNumber(text.at(2));
            if (text.length() != SHORTEST_RULE || from == NONE || to == NONE) {
                return false;
            }
            return contains(reachedByChains(to), from);
        }

        private int reachedByChains(int start) {
            int reached = 1 << start;
            for (int step = 0; step < NONTERMINALS; step++) {
                for (int r = 0; r < size; r++) {
                    if (contains(reached, lefts[r]) && isChain(r)) {
                        reached |= 1 << symbolNonterminal(r, 0);
                    }
                }
            }
            return reached;
        }

        private boolean isChain(int r) {
            return rightLengths[r] == 1 && symbolNonterminal(r, 0) != NONE;
        }

        /** For a text that is a rule, while there is room. */
        void add(Text text, double weight) {
            int r = size;
            lefts[r] = nonterminalNumber(text.at(0));
            rightLengths[r] = text.length() - 2;
            for (int k = 0; k < MOST_SYMBOLS; k++) {
                rights[r * MOST_SYMBOLS + k] = text.at(k + 2);
            }
            weights[r] = weight;
            marks[r] = PLAIN;
            size++;
        }

        void removeLatest() {
            size--;
            barredUnder[size] = 0;
            for (int r = 0; r < size; r++) {
                setBarred(r, size, false);
            }
        }

        void setMark(int r, int how) {
            marks[r] = how;
        }

        void setBarred(int r, int s, boolean barred) {
            if (barred) {
                barredUnder[r] |= 1 << s;
            } else {
                barredUnder[r] &= ~(1 << s);
            }
        }

        void setMayFollow(int n, int c, boolean may) {
            mayNotFollow[n * CHARACTERS + c - FIRST_CHARACTER] = !may;
        }

        boolean mayFollow(int n, int c) {
            return !mayNotFollow[n * CHARACTERS + c - FIRST_CHARACTER];
        }

        int left(int r) {
            return lefts[r];
        }

        int rightLength(int r) {
            return rightLengths[r];
        }

        double weightOf(int r) {
            return weights[r];
        }

        /** The number of the nonterminal that is the k-th symbol of rule r, or NONE. */
        int symbolNonterminal(int r, int k) {
            return nonterminalNumber(rights[r * MOST_SYMBOLS + k]);
        }

        /** Whether the k-th symbol of rule r is a character symbol that stands for c. */
        boolean symbolStandsFor(int r, int k, int c) {
            int symbol = rights[r * MOST_SYMBOLS + k];
            if (symbol == '#') {
                return c >= '0' && c <= '9';
            }
            if (symbol == '@') {
                return c >= 'a' && c <= 'z';
            }
            return symbol == c && nonterminalNumber(symbol) == NONE;
        }

        int rejectingRules(int n) {
            return rulesOf(n, true);
        }

        /** The rules whose derivations are those of the nonterminal. */
        int derivingRules(int n) {
            return rulesOf(n, false);
        }

        private int rulesOf(int n, boolean rejecting) {
            int rules = 0;
            for (int r = 0; r < size; r++) {
                if (lefts[r] == n && (marks[r] == REJECTING) == rejecting) {
                    rules |= 1 << r;
                }
            }
            return rules;
        }

        /** Those of the rules that are allowed under rule r as its k-th symbol. */
        int allowedUnder(int r, int k, int rules) {
            int allowed = rules & ~barredUnder[r];
            boolean leansAway = marks[r] == LEANS_LEFT && k == rightLengths[r] - 1
                    || marks[r] == LEANS_RIGHT && k == 0;
            return leansAway ? allowed & ~(1 << r) : allowed;
        }

        /** Writes the nonterminals so that each comes behind all that its chains lead to. */
        void orderByChains(int[] order) {
            int placed = 0;
            int next = 0;
            for (int round = 0; round < NONTERMINALS; round++) {
                for (int n = 0; n < NONTERMINALS; n++) {
                    int needed = reachedByChains(n) & ~(1 << n);
                    if (!contains(placed, n) && (needed & ~placed) == 0) {
                        order[next] = n;
                        next++;
                        placed |= 1 << n;
                    }
                }
            }
        }
    }

    /**
     * What each rule, and each symbol of a rule (a use), has over each span of the input.
     * Short spans are filled before long ones, so whatever a span needs is there already.
     */
    private static final class Chart {
        private final int[] ruleWays = new int[MOST_RULES * SPANS];
        private final double[] ruleWeights = new double[MOST_RULES * SPANS];
        private final int[] ruleDivisions = new int[MOST_RULES * SPANS];
        private final int[] useWays = new int[MOST_USES * SPANS];
        private final int[] useRules = new int[MOST_USES * SPANS];
        private final int[] order = new int[NONTERMINALS];
        private final int[] ends = new int[MOST_SYMBOLS];

        void fill(Grammar grammar, Text input) {
            grammar.orderByChains(order);
            for (int length = 1; length <= input.length(); length++) {
                for (int begin = 0; begin + length <= input.length(); begin++) {
                    fillSpan(grammar, input, begin, begin + length);
                }
            }
        }

        private void fillSpan(Grammar grammar, Text input, int begin, int end) {
            settleCharacters(grammar, input, begin, end);
            for (int place = 0; place < NONTERMINALS; place++) {
                int n = order[place];
                for (int r = 0; r < grammar.size(); r++) {
                    if (grammar.left(r) == n) {
                        deriveRule(grammar, r, begin, end);
                    }
                }
                int span = spanNumber(begin, end);
                boolean good = waysOfAny(grammar.rejectingRules(n), span) == 0
                        && (end == input.length() || grammar.mayFollow(n, input.at(end)));
                settleNonterminal(grammar, n, span, good);
            }
        }

        private void settleCharacters(Grammar grammar, Text input, int begin, int end) {
            int span = spanNumber(begin, end);
            for (int r = 0; r < grammar.size(); r++) {
                for (int k = 0; k < grammar.rightLength(r); k++) {
                    if (grammar.symbolNonterminal(r, k) == NONE) {
                        boolean fits = end - begin == 1 && grammar.symbolStandsFor(r, k, input.at(begin));
                        useWays[useIndex(r, k, span)] = fits ? 1 : 0;
                        useRules[useIndex(r, k, span)] = NONE;
                    }
                }
            }
        }

        private void settleNonterminal(Grammar grammar, int n, int span, boolean good) {
            int rules = good ? grammar.derivingRules(n) : 0;
            for (int r = 0; r < grammar.size(); r++) {
                for (int k = 0; k < grammar.rightLength(r); k++) {
                    if (grammar.symbolNonterminal(r, k) == n) {
                        int allowed = grammar.allowedUnder(r, k, rules);
                        useWays[useIndex(r, k, span)] = waysOfAny(allowed, span);
                        useRules[useIndex(r, k, span)] = heaviestOf(allowed, span);
                    }
                }
            }
        }

        /** Tries every division: rounding may make two weights equal only at the last product. */
        private void deriveRule(Grammar grammar, int r, int begin, int end) {
            int symbols = grammar.rightLength(r);
            long ways = 0;
            double heaviest = 0.0;
            int heaviestDivision = 0;
            boolean more = firstDivision(symbols, begin, end);
            for (int tried = 0; tried < MOST_DIVISIONS && more; tried++) {
                long added = divisionWays(r, symbols, begin);
                if (added > 0) {
                    ways = Math.min(MOST_WAYS, ways + added);
                    double weight = divisionWeight(grammar.weightOf(r), r, symbols, begin);
                    if (weight > heaviest) {
                        heaviest = weight;
                        heaviestDivision = packedEnds(symbols);
                    }
                }
                more = nextDivision(symbols, end);
            }
            int index = ruleIndex(r, spanNumber(begin, end));
            ruleWays[index] = (int) ways;
            ruleWeights[index] = heaviest;
            ruleDivisions[index] = heaviestDivision;
        }

        /** Whether there is a division at all; the first has the shortest first symbols. */
        private boolean firstDivision(int symbols, int begin, int end) {
            for (int k = 0; k < symbols - 1; k++) {
                ends[k] = begin + k + 1;
            }
            ends[symbols - 1] = end;
            return end - begin >= symbols;
        }

        /** Later symbols change first, so divisions come in the order in which equal ones are preferred. */
        private boolean nextDivision(int symbols, int end) {
            for (int k = symbols - 2; k >= 0; k--) {
                int behind = symbols - 1 - k;
                if (ends[k] + behind < end) {
                    ends[k]++;
                    for (int later = k + 1; later < symbols - 1; later++) {
                        ends[later] = ends[later - 1] + 1;
                    }
                    return true;
                }
            }
            return false;
        }

        private long divisionWays(int r, int symbols, int begin) {
            long ways = 1;
            int from = begin;
            for (int k = 0; k < symbols && ways > 0; k++) {
                ways = Math.min(MOST_WAYS, ways * useWays[useIndex(r, k, spanNumber(from, ends[k]))]);
                from = ends[k];
            }
            return ways;
        }

        private double divisionWeight(double ruleWeight, int r, int symbols, int begin) {
            double weight = ruleWeight;
            int from = begin;
            for (int k = 0; k < symbols; k++) {
                int span = spanNumber(from, ends[k]);
                int below = useRules[useIndex(r, k, span)];
                if (below != NONE) {
                    weight = weight * ruleWeights[ruleIndex(below, span)];
                }
                from = ends[k];
            }
            return weight;
        }

        private int packedEnds(int symbols) {
            int packed = 0;
            for (int k = 0; k < symbols; k++) {
                packed |= ends[k] << (4 * k);
            }
            return packed;
        }

        int waysOf(int r, int span) {
            return ruleWays[ruleIndex(r, span)];
        }

        double heaviestWeight(int r, int span) {
            return ruleWeights[ruleIndex(r, span)];
        }

        /** Where the k-th symbol ends in the heaviest derivation of rule r over the span. */
        int symbolEnd(int r, int k, int span) {
            return ruleDivisions[ruleIndex(r, span)] >> (4 * k) & 15;
        }

        /** The rule by which the k-th symbol of rule r is derived over the span, NONE for a character. */
        int ruleBelow(int r, int k, int span) {
            return useRules[useIndex(r, k, span)];
        }

        int waysOfAny(int rules, int span) {
            long ways = 0;
            for (int r = 0; r < MOST_RULES; r++) {
                if (contains(rules, r)) {
                    ways = Math.min(MOST_WAYS, ways + ruleWays[ruleIndex(r, span)]);
                }
            }
            return (int) ways;
        }

        /** The first of the rules whose heaviest derivation is heaviest, NONE if there is no derivation. */
        int heaviestOf(int rules, int span) {
            int best = NONE;
            double heaviest = 0.0;
            for (int r = 0; r < MOST_RULES; r++) {
                if (contains(rules, r) && ruleWeights[ruleIndex(r, span)] > heaviest) {
                    best = r;
                    heaviest = ruleWeights[ruleIndex(r, span)];
                }
            }
            return best;
        }

        private static int ruleIndex(int r, int span) {
            return r * SPANS + span;
        }

        private static int useIndex(int r, int k, int span) {
            return (r * MOST_SYMBOLS + k) * SPANS + span;
        }
    }

    /** The nodes of the heaviest derivation, each before those below it. */
    private static final class Tree {
        private final int[] rules = new int[MOST_NODES];
        private final int[] begins = new int[MOST_NODES];
        private final int[] ends = new int[MOST_NODES];
        private int size = 0;

        void clear() {
            size = 0;
        }

        /** Behind node k stand only nodes right of it when its own are put between. */
        void grow(Grammar grammar, Chart chart, int root, int length) {
            size = 0;
            insert(0, root, 0, length);
            for (int k = 0; k < size && k < MOST_NODES; k++) {
                insertBelow(grammar, chart, k);
            }
        }

        private void insertBelow(Grammar grammar, Chart chart, int k) {
            int r = rules[k];
            int whole = spanNumber(begins[k], ends[k]);
            int from = begins[k];
            int place = k + 1;
            for (int symbol = 0; symbol < grammar.rightLength(r); symbol++) {
                int to = chart.symbolEnd(r, symbol, whole);
                int below = chart.ruleBelow(r, symbol, spanNumber(from, to));
                if (below != NONE) {
                    insert(place, below, from, to);
                    place++;
                }
                from = to;
            }
        }

        private void insert(int place, int r, int begin, int end) {
            if (size < MOST_NODES && place <= size) {
                System.arraycopy(rules, place, rules, place + 1, size - place);
                System.arraycopy(begins, place, begins, place + 1, size - place);
                System.arraycopy(ends, place, ends, place + 1, size - place);
                rules[place] = r;
                begins[place] = begin;
                ends[place] = end;
                size++;
            }
        }

        int size() {
            return size;
        }

        int ruleAt(int k) {
            return rules[k];
        }

        int beginAt(int k) {
            return begins[k];
        }

        int endAt(int k) {
            return ends[k];
        }

        /** What comes behind those below node k begins where node k ends, or later. */
        int nodesBelow(int k) {
            int behind = k + 1;
            while (behind < size && begins[behind] < ends[k]) {
                behind++;
            }
            return behind - k - 1;
        }
    }
}
