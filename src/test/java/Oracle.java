import java.math.BigInteger;
import java.util.ArrayList;
import java.util.Arrays;
import java.util.List;

/**
 * A slow and literal reading of the document's "Terms": asks for every rule over every span anew, from
 * the top down, and counts without a limit. Shares nothing with the class that it is held against.
 */
final class Oracle {
    final List<String> rules = new ArrayList<>();
    final List<Double> weights = new ArrayList<>();
    final int[] marks = new int[16];
    final boolean[][] barred = new boolean[16][16];
    final boolean[][] mayNotFollow = new boolean[6][127];
    String input = "";
    private Derivations[][][] known = new Derivations[16][15][15];

    static long cut(BigInteger ways) {
        return ways.min(BigInteger.valueOf(1000000000L)).longValue();
    }

    void take(String text) {
        input = text;
        known = new Derivations[16][15][15];
    }

    boolean chainsLeadRound() {
        for (char from = 'A'; from <= 'F'; from++) {
            if (leads(from, from, 7)) {
                return true;
            }
        }
        return false;
    }

    private boolean leads(char from, char to, int steps) {
        for (String text : rules) {
            if (steps > 0 && text.length() == 3 && text.charAt(0) == from && text.charAt(2) <= 'F'
                    && text.charAt(2) >= 'A' && (text.charAt(2) == to || leads(text.charAt(2), to, steps - 1))) {
                return true;
            }
        }
        return false;
    }

    Derivations ofRule(int r, int i, int j) {
        if (known[r][i][j] == null) {
            Derivations all = new Derivations();
            divide(all, r, new int[] {i}, j);
            known[r][i][j] = all;
        }
        return known[r][i][j];
    }

    /** Places are all the ends so far, the beginning first. */
    private void divide(Derivations all, int r, int[] places, int j) {
        int symbols = rules.get(r).length() - 2;
        if (places.length == symbols) {
            int[] whole = Arrays.copyOf(places, symbols + 1);
            whole[symbols] = j;
            takeDivision(all, r, whole);
            return;
        }
        for (int end = places[places.length - 1] + 1; end < j; end++) {
            int[] longer = Arrays.copyOf(places, places.length + 1);
            longer[places.length] = end;
            divide(all, r, longer, j);
        }
    }

    private void takeDivision(Derivations all, int r, int[] places) {
        BigInteger ways = BigInteger.ONE;
        double weight = weights.get(r);
        List<Derivation> below = new ArrayList<>();
        for (int k = 0; k + 1 < places.length && ways.signum() > 0; k++) {
            char symbol = rules.get(r).charAt(k + 2);
            if (symbol >= 'A' && symbol <= 'F') {
                Derivations some = ofNonterminal(symbol - 'A', places[k], places[k + 1], r, k);
                ways = ways.multiply(some.ways);
                if (some.best != null) {
                    weight = weight * some.best.weight;
                    below.add(some.best);
                }
            } else if (places[k + 1] - places[k] != 1 || !standsFor(symbol, input.charAt(places[k]))) {
                ways = BigInteger.ZERO;
            }
        }
        all.ways = all.ways.add(ways);
        if (ways.signum() > 0) {
            all.take(new Derivation(r, places[0], places[places.length - 1], weight, below));
        }
    }

    private static boolean standsFor(char symbol, char c) {
        return symbol == '#' ? Character.isDigit(c) : symbol == '@' ? Character.isLowerCase(c) : symbol == c;
    }

    /** Under rule r as its k-th symbol, or under none if r is -1. */
    Derivations ofNonterminal(int n, int i, int j, int r, int k) {
        Derivations all = new Derivations();
        if (j < input.length() && mayNotFollow[n][input.charAt(j)]) {
            return all;
        }
        for (int s = 0; s < rules.size(); s++) {
            if (rules.get(s).charAt(0) - 'A' == n && marks[s] == 1 && ofRule(s, i, j).ways.signum() > 0) {
                return all;
            }
        }
        for (int s = 0; s < rules.size(); s++) {
            if (rules.get(s).charAt(0) - 'A' == n && marks[s] != 1 && allowed(s, r, k)) {
                all.ways = all.ways.add(ofRule(s, i, j).ways);
                all.take(ofRule(s, i, j).best);
            }
        }
        return all;
    }

    private boolean allowed(int s, int r, int k) {
        if (r < 0) {
            return true;
        }
        boolean last = k == rules.get(r).length() - 3;
        return !barred[r][s] && !(r == s && marks[r] == 2 && last) && !(r == s && marks[r] == 3 && k == 0);
    }

    static final class Derivation {
        final int rule;
        final int begin;
        final int end;
        final double weight;
        final List<Derivation> below;

        Derivation(int rule, int begin, int end, double weight, List<Derivation> below) {
            this.rule = rule;
            this.begin = begin;
            this.end = end;
            this.weight = weight;
            this.below = below;
        }

        int nodes() {
            int nodes = 1;
            for (Derivation d : below) {
                nodes += d.nodes();
            }
            return nodes;
        }

        String written() {
            StringBuilder text = new StringBuilder();
            text.append(rule).append('[').append(begin).append(',').append(end).append(' ');
            text.append(nodes() - 1).append(']');
            for (Derivation d : below) {
                text.append(d.written());
            }
            return text.toString();
        }
    }

    static final class Derivations {
        BigInteger ways = BigInteger.ZERO;
        Derivation best = null;

        void take(Derivation d) {
            if (d != null && (best == null || d.weight > best.weight)) {
                best = d;
            }
        }
    }
}
