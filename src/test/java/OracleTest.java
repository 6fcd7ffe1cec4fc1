import java.math.BigInteger;
import java.util.ArrayList;
import java.util.Arrays;
import java.util.List;

/**
 * Promises 4 to 11 together: many small grammars, each against a slow reading of the document that
 * asks for every rule over every span anew, from the top down, and counts without a limit.
 */
public final class OracleTest {
    private static final int GRAMMARS = 6000;
    private static final int INPUTS = 2;
    private static final double[] WEIGHTS = {0.125, 0.3, 0.7, 0.9, 1.0, 1.0, 1.0, 1.1, 2.0, 3.3, 8.0};
    private static final String LEFTS = "AAAABBBCCDEF";
    private static final String SYMBOLS = "AAAABBBCCDEFxxxx@@#y";
    private static final String INPUT = "xxxxxy1";

    private static long seed = 20240607L;
    private static int parsed = 0;
    private static int wentMissing = 0;
    private static int ambiguous = 0;

    public static void main(String[] args) {
        for (int g = 0; g < GRAMMARS; g++) {
            oneGrammar(g);
        }
        System.out.println("parsed " + parsed + ", missing " + wentMissing + ", ambiguous " + ambiguous);
        Check.dueTrue("enough were parsed: " + parsed, parsed > 1000);
        Check.dueTrue("enough were missing: " + wentMissing, wentMissing > 1000);
        Check.dueTrue("enough were ambiguous: " + ambiguous, ambiguous > 500);
        Check.end();
    }

    /** The same numbers in every run. */
    private static int pick(int bound) {
        seed = seed * 6364136223846793005L + 1442695040888963407L;
        return (int) ((seed >>> 33) % bound);
    }

    private static void oneGrammar(int g) {
        SpanParser p = new SpanParser();
        Oracle o = new Oracle();
        for (int tries = 6 + pick(11); tries > 0 || o.rules.isEmpty(); tries--) {
            addRule(p, o);
        }
        for (int t = pick(3); t > 0; t--) {
            int r = pick(o.rules.size());
            o.marks[r] = pick(4);
            p.mark(r, o.marks[r]);
        }
        for (int t = pick(5); t > 0; t--) {
            int r = pick(o.rules.size());
            int s = pick(o.rules.size());
            o.barred[r][s] = pick(4) > 0;
            p.bar(r, s, o.barred[r][s]);
        }
        for (int t = pick(3); t > 0; t--) {
            int n = pick(6);
            int c = INPUT.charAt(pick(INPUT.length()));
            o.mayNotFollow[n][c] = pick(4) > 0;
            p.follow(n, c, !o.mayNotFollow[n][c]);
        }
        for (int t = 0; t < INPUTS; t++) {
            compare("grammar " + g + " " + o.rules, p, o);
        }
    }

    private static void addRule(SpanParser p, Oracle o) {
        StringBuilder text = new StringBuilder();
        text.append(LEFTS.charAt(pick(LEFTS.length()))).append(':');
        for (int k = 1 + Math.min(pick(4), pick(3)); k > 0; k--) {
            text.append(SYMBOLS.charAt(pick(SYMBOLS.length())));
        }
        double weight = WEIGHTS[pick(WEIGHTS.length)];
        try {
            Check.rule(p, text.toString(), weight);
            o.rules.add(text.toString());
            o.weights.add(weight);
            Check.dueTrue("chains of " + o.rules + " end", !o.chainsLeadRound());
        } catch (UnsupportedOperationException e) {
            o.rules.add(text.toString());
            Check.dueTrue("chains of " + o.rules + " lead round", o.chainsLeadRound());
            o.rules.remove(o.rules.size() - 1);
        }
    }

    private static void compare(String what, SpanParser p, Oracle o) {
        StringBuilder text = new StringBuilder();
        for (int length = 1 + pick(pick(4) == 0 ? 14 : 7); length > 0; length--) {
            text.append(INPUT.charAt(pick(INPUT.length())));
        }
        o.take(text.toString());
        int n = LEFTS.charAt(pick(LEFTS.length())) - 'A';
        String named = what + " input " + text + " as " + n;
        int got = Check.ways(p, o.input, n);
        Derivations want = o.ofNonterminal(n, 0, o.input.length(), -1, 0);
        Check.due(named, got, Oracle.cut(want.ways));
        if (want.best == null) {
            wentMissing++;
            Check.due(named + " nodes", p.count(3), 0);
        } else {
            parsed++;
            ambiguous += got > 1 ? 1 : 0;
            Check.dueWeight(named + " weight", p.weight(), want.best.weight);
            Check.dueTree(named, p, want.best.written());
        }
        int r = pick(o.rules.size());
        for (int i = 0; i < o.input.length(); i++) {
            for (int j = i + 1; j <= o.input.length(); j++) {
                Check.due(named + " many " + r + " " + i + " " + j, p.many(r, i, j), Oracle.cut(o.ofRule(r, i, j).ways));
            }
        }
    }

    private static final class Derivation {
        private final int rule;
        private final int begin;
        private final int end;
        private final double weight;
        private final List<Derivation> below;

        Derivation(int rule, int begin, int end, double weight, List<Derivation> below) {
            this.rule = rule;
            this.begin = begin;
            this.end = end;
            this.weight = weight;
            this.below = below;
        }

        int nodes() {
            int nodes = 1;
            for (Derivation d : below) {
                nodes += d.nodes();
            }
            return nodes;
        }

        String written() {
            StringBuilder text = new StringBuilder();
            text.append(rule).append('[').append(begin).append(',').append(end).append(' ');
            text.append(nodes() - 1).append(']');
            for (Derivation d : below) {
                text.append(d.written());
            }
            return text.toString();
        }
    }

    private static final class Derivations {
        private BigInteger ways = BigInteger.ZERO;
        private Derivation best = null;

        void take(Derivation d) {
            if (d != null && (best == null || d.weight > best.weight)) {
                best = d;
            }
        }
    }

    private static final class Oracle {
        private final List<String> rules = new ArrayList<>();
        private final List<Double> weights = new ArrayList<>();
        private final int[] marks = new int[16];
        private final boolean[][] barred = new boolean[16][16];
        private final boolean[][] mayNotFollow = new boolean[6][127];
        private String input = "";
        private Derivations[][][] known = new Derivations[16][15][15];

        static long cut(BigInteger ways) {
            return ways.min(BigInteger.valueOf(1000000000L)).longValue();
        }

        void take(String text) {
            input = text;
            known = new Derivations[16][15][15];
        }

        boolean chainsLeadRound() {
            for (char from = 'A'; from <= 'F'; from++) {
                if (leads(from, from, 7)) {
                    return true;
                }
            }
            return false;
        }

        private boolean leads(char from, char to, int steps) {
            for (String text : rules) {
                if (steps > 0 && text.length() == 3 && text.charAt(0) == from && text.charAt(2) <= 'F'
                        && text.charAt(2) >= 'A' && (text.charAt(2) == to || leads(text.charAt(2), to, steps - 1))) {
                    return true;
                }
            }
            return false;
        }

        Derivations ofRule(int r, int i, int j) {
            if (known[r][i][j] == null) {
                Derivations all = new Derivations();
                divide(all, r, new int[] {i}, j);
                known[r][i][j] = all;
            }
            return known[r][i][j];
        }

        /** Places are all the ends so far, the beginning first. */
        private void divide(Derivations all, int r, int[] places, int j) {
            int symbols = rules.get(r).length() - 2;
            if (places.length == symbols) {
                int[] whole = Arrays.copyOf(places, symbols + 1);
                whole[symbols] = j;
                takeDivision(all, r, whole);
                return;
            }
            for (int end = places[places.length - 1] + 1; end < j; end++) {
                int[] longer = Arrays.copyOf(places, places.length + 1);
                longer[places.length] = end;
                divide(all, r, longer, j);
            }
        }

        private void takeDivision(Derivations all, int r, int[] places) {
            BigInteger ways = BigInteger.ONE;
            double weight = weights.get(r);
            List<Derivation> below = new ArrayList<>();
            for (int k = 0; k + 1 < places.length && ways.signum() > 0; k++) {
                char symbol = rules.get(r).charAt(k + 2);
                if (symbol >= 'A' && symbol <= 'F') {
                    Derivations some = ofNonterminal(symbol - 'A', places[k], places[k + 1], r, k);
                    ways = ways.multiply(some.ways);
                    if (some.best != null) {
                        weight = weight * some.best.weight;
                        below.add(some.best);
                    }
                } else if (places[k + 1] - places[k] != 1 || !standsFor(symbol, input.charAt(places[k]))) {
                    ways = BigInteger.ZERO;
                }
            }
            all.ways = all.ways.add(ways);
            if (ways.signum() > 0) {
                all.take(new Derivation(r, places[0], places[places.length - 1], weight, below));
            }
        }

        private static boolean standsFor(char symbol, char c) {
            return symbol == '#' ? Character.isDigit(c) : symbol == '@' ? Character.isLowerCase(c) : symbol == c;
        }

        /** Under rule r as its k-th symbol, or under none if r is -1. */
        Derivations ofNonterminal(int n, int i, int j, int r, int k) {
            Derivations all = new Derivations();
            if (j < input.length() && mayNotFollow[n][input.charAt(j)]) {
                return all;
            }
            for (int s = 0; s < rules.size(); s++) {
                if (rules.get(s).charAt(0) - 'A' == n && marks[s] == 1 && ofRule(s, i, j).ways.signum() > 0) {
                    return all;
                }
            }
            for (int s = 0; s < rules.size(); s++) {
                if (rules.get(s).charAt(0) - 'A' == n && marks[s] != 1 && allowed(s, r, k)) {
                    all.ways = all.ways.add(ofRule(s, i, j).ways);
                    all.take(ofRule(s, i, j).best);
                }
            }
            return all;
        }

        private boolean allowed(int s, int r, int k) {
            if (r < 0) {
                return true;
            }
            boolean last = k == rules.get(r).length() - 3;
            return !barred[r][s] && !(r == s && marks[r] == 2 && last) && !(r == s && marks[r] == 3 && k == 0);
        }
    }
}
