/** Promises 4 to 11 together: many small grammars, each against the slow reading in Oracle. */
public final class OracleTest {
    private static final int GRAMMARS = 6000;
    private static final int INPUTS = 2;
    private static final double[] WEIGHTS = {0.125, 0.3, 0.7, 0.9, 1.0, 1.0, 1.0, 1.1, 2.0, 3.3, 8.0};
    private static final String LEFTS = "AAAABBBCCDEF";
    private static final String SYMBOLS = "AAAABBBCCDEFxxxx@@#y";
    private static final String INPUT = "xxxxxy1";

    private static long seed = 20240607L;
    private static int parsed = 0;
    private static int wentMissing = 0;
    private static int ambiguous = 0;

    public static void main(String[] args) {
        for (int g = 0; g < GRAMMARS; g++) {
            oneGrammar(g);
        }
        System.out.println("parsed " + parsed + ", missing " + wentMissing + ", ambiguous " + ambiguous);
        Check.dueTrue("enough were parsed: " + parsed, parsed > 1000);
        Check.dueTrue("enough were missing: " + wentMissing, wentMissing > 1000);
        Check.dueTrue("enough were ambiguous: " + ambiguous, ambiguous > 500);
        Check.end();
    }

    /** The same numbers in every run. */
    private static int pick(int bound) {
        seed = seed * 6364136223846793005L + 1442695040888963407L;
        return (int) ((seed >>> 33) % bound);
    }

    private static void oneGrammar(int g) {
        SpanParser p = new SpanParser();
        Oracle o = new Oracle();
        for (int tries = 6 + pick(11); tries > 0 || o.rules.isEmpty(); tries--) {
            addRule(p, o);
        }
        for (int t = pick(3); t > 0; t--) {
            int r = pick(o.rules.size());
            o.marks[r] = pick(4);
            p.mark(r, o.marks[r]);
        }
        for (int t = pick(5); t > 0; t--) {
            int r = pick(o.rules.size());
            int s = pick(o.rules.size());
            o.barred[r][s] = pick(4) > 0;
            p.bar(r, s, o.barred[r][s]);
        }
        for (int t = pick(3); t > 0; t--) {
            int n = pick(6);
            int c = INPUT.charAt(pick(INPUT.length()));
            o.mayNotFollow[n][c] = pick(4) > 0;
            p.follow(n, c, !o.mayNotFollow[n][c]);
        }
        for (int t = 0; t < INPUTS; t++) {
            compare("grammar " + g + " " + o.rules, p, o);
        }
    }

    private static void addRule(SpanParser p, Oracle o) {
        StringBuilder text = new StringBuilder();
        text.append(LEFTS.charAt(pick(LEFTS.length()))).append(':');
        for (int k = 1 + Math.min(pick(4), pick(3)); k > 0; k--) {
            text.append(SYMBOLS.charAt(pick(SYMBOLS.length())));
        }
        double weight = WEIGHTS[pick(WEIGHTS.length)];
        try {
            Check.rule(p, text.toString(), weight);
            o.rules.add(text.toString());
            o.weights.add(weight);
            Check.dueTrue("chains of " + o.rules + " end", !o.chainsLeadRound());
        } catch (UnsupportedOperationException e) {
            o.rules.add(text.toString());
            Check.dueTrue("chains of " + o.rules + " lead round", o.chainsLeadRound());
            o.rules.remove(o.rules.size() - 1);
        }
    }

    private static void compare(String what, SpanParser p, Oracle o) {
        StringBuilder text = new StringBuilder();
        for (int length = 1 + pick(pick(4) == 0 ? 14 : 7); length > 0; length--) {
            text.append(INPUT.charAt(pick(INPUT.length())));
        }
        o.take(text.toString());
        int n = LEFTS.charAt(pick(LEFTS.length())) - 'A';
        String named = what + " input " + text + " as " + n;
        int got = Check.ways(p, o.input, n);
        Oracle.Derivations want = o.ofNonterminal(n, 0, o.input.length(), -1, 0);
        Check.due(named, got, Oracle.cut(want.ways));
        if (want.best == null) {
            wentMissing++;
            Check.due(named + " nodes", p.count(3), 0);
        } else {
            parsed++;
            ambiguous += got > 1 ? 1 : 0;
            Check.dueWeight(named + " weight", p.weight(), want.best.weight);
            Check.dueTree(named, p, want.best.written());
        }
        int r = pick(o.rules.size());
        for (int i = 0; i < o.input.length(); i++) {
            for (int j = i + 1; j <= o.input.length(); j++) {
                Check.due(named + " many " + r + " " + i + " " + j, p.many(r, i, j), Oracle.cut(o.ofRule(r, i, j).ways));
            }
        }
    }
}
