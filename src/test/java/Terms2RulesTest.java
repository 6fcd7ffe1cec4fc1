/** Terms, "RULES" and "CHAINS": how many, how long, how heavy, and what may not lead round. */
public final class Terms2RulesTest {
    private static final String NAMES = "ABCDEF";

    public static void main(String[] args) {
        atMostSixteen();
        numberedFromZeroInOrder();
        oneToFourSymbols();
        lightestAndHeaviest();
        plainAtFirst();
        aChainIsJustOneNonterminal();
        noChainToItself();
        noTwoChainsRound();
        noSixChainsRound();
        everyForwardChainAtOnce();
        marksAndBarsDoNotBreakChains();
        aChainThatWentLeadsNowhere();
        Check.end();
    }

    private static SpanParser sixteen() {
        SpanParser p = new SpanParser();
        for (int r = 0; r < 16; r++) {
            Check.rule(p, "A:a");
        }
        return p;
    }

    private static void atMostSixteen() {
        SpanParser p = sixteen();
        Check.due("the sixteenth is there", p.count(0), 16);
        Check.due("and used", Check.ways(p, "a", Check.A), 16);
        Check.dueThrow("the seventeenth", Check.NO_ROOM, () -> Check.rule(p, "A:a"));
        Check.due("isn't there", p.count(0), 16);
        Check.due("nor used", Check.ways(p, "a", Check.A), 16);
    }

    private static void numberedFromZeroInOrder() {
        SpanParser p = new SpanParser();
        for (int r = 0; r < 16; r++) {
            Check.due("number", Check.rule(p, "A:" + (char) ('a' + r)), r);
        }
        for (int r = 0; r < 16; r++) {
            Check.parse(p, String.valueOf((char) ('a' + r)), Check.A);
            Check.due("the rule of that number", p.node(0, 0), r);
        }
    }

    private static void oneToFourSymbols() {
        String symbols = "abcde";
        for (int length = 1; length <= 4; length++) {
            SpanParser p = Check.of("A:" + symbols.substring(0, length));
            for (int asked = 1; asked <= 5; asked++) {
                Check.due(length + " symbols over " + asked + " characters",
                        Check.ways(p, symbols.substring(0, asked), Check.A), asked == length ? 1 : 0);
            }
        }
        SpanParser q = new SpanParser();
        Check.dueThrow("no symbol", Check.BAD, () -> Check.rule(q, "A:"));
        Check.due("place", q.count(1), 2);
        Check.dueThrow("five symbols", Check.BAD, () -> Check.rule(q, "A:abcde"));
        Check.due("place", q.count(1), 6);
        Check.due("no rule", q.count(0), 0);
    }

    private static void dueTaken(double weight) {
        SpanParser p = new SpanParser();
        Check.due("weight " + weight, Check.rule(p, "A:a", weight), 0);
        Check.parse(p, "a", Check.A);
        Check.dueWeight("weight " + weight, p.weight(), weight);
    }

    private static void dueRefused(double weight) {
        SpanParser p = new SpanParser();
        Check.dueThrow("weight " + weight, Check.BAD, () -> Check.rule(p, "A:a", weight));
        Check.due("no rule of weight " + weight, p.count(0), 0);
        Check.due("the text stays", p.count(2), 3);
    }

    private static void lightestAndHeaviest() {
        dueTaken(0.125);
        dueTaken(Math.nextUp(0.125));
        dueTaken(8.0);
        dueTaken(Math.nextDown(8.0));
        dueRefused(Math.nextDown(0.125));
        dueRefused(Math.nextUp(8.0));
        dueRefused(0.0);
        dueRefused(-0.125);
        dueRefused(-8.0);
        dueRefused(Double.MIN_VALUE);
        dueRefused(Double.MAX_VALUE);
        dueRefused(Double.NaN);
        dueRefused(Double.POSITIVE_INFINITY);
        dueRefused(Double.NEGATIVE_INFINITY);
    }

    private static void plainAtFirst() {
        SpanParser p = Check.of("A:AA", "A:x");
        Check.due("neither rejecting nor leaning", Check.ways(p, "xxx", Check.A), 2);
        for (int how = 1; how <= 3; how++) {
            SpanParser q = Check.of("A:x", "A:AA");
            q.mark(1, how);
            q.undo();
            Check.rule(q, "A:AA");
            Check.due("a new one of the same number", Check.ways(q, "xxx", Check.A), 2);
        }
    }

    private static void aChainIsJustOneNonterminal() {
        SpanParser p = Check.of("A:B");
        Check.due("two symbols", Check.rule(p, "B:Ax"), 1);
        Check.due("two nonterminals", Check.rule(p, "B:AA"), 2);
        Check.due("a nonterminal behind", Check.rule(p, "B:xA"), 3);
        Check.due("one character", Check.rule(p, "B:x"), 4);
        Check.due("a rule of itself", Check.rule(p, "A:AA"), 5);
        Check.due("a digit", Check.rule(p, "B:#"), 6);
        Check.due("a letter", Check.rule(p, "B:@"), 7);
        Check.dueThrow("a chain", Check.ROUND, () -> Check.rule(p, "B:A"));
    }

    private static void dueRound(SpanParser p, String text) {
        int rules = p.count(0);
        Check.dueThrow(text, Check.ROUND, () -> Check.rule(p, text));
        Check.due("rules after " + text, p.count(0), rules);
        Check.due("text after " + text, p.count(2), 0);
    }

    private static void noChainToItself() {
        for (char left : NAMES.toCharArray()) {
            for (char right : NAMES.toCharArray()) {
                String text = left + ":" + right;
                if (left == right) {
                    dueRound(new SpanParser(), text);
                } else {
                    Check.due(text, Check.rule(new SpanParser(), text), 0);
                }
            }
        }
    }

    private static void noTwoChainsRound() {
        for (char left : NAMES.toCharArray()) {
            for (char right : NAMES.toCharArray()) {
                if (left != right) {
                    SpanParser p = Check.of(left + ":" + right);
                    dueRound(p, right + ":" + left);
                    Check.due("the same again", Check.rule(p, left + ":" + right), 1);
                }
            }
        }
    }

    private static void noSixChainsRound() {
        SpanParser p = Check.of("A:B", "C:D", "E:F", "B:C", "D:E");
        dueRound(p, "F:A");
        for (int from = 0; from < 6; from++) {
            for (int to = 0; to <= from; to++) {
                dueRound(p, NAMES.charAt(from) + ":" + NAMES.charAt(to));
            }
        }
        SpanParser open = Check.of("A:B", "C:D", "E:F", "B:C");
        Check.due("one chain is missing", Check.rule(open, "F:A"), 4);
        dueRound(open, "D:E");
    }

    /** Fifteen chains and one rule of a character: as many as there may be of both. */
    private static void everyForwardChainAtOnce() {
        SpanParser p = new SpanParser();
        for (int from = 0; from < 6; from++) {
            for (int to = from + 1; to < 6; to++) {
                Check.rule(p, NAMES.charAt(from) + ":" + NAMES.charAt(to));
            }
        }
        dueRound(p, "F:A");
        Check.due("the sixteenth", Check.rule(p, "F:x"), 15);
        int[] paths = {16, 8, 4, 2, 1, 1};
        for (int n = 0; n < 6; n++) {
            Check.due("ways from " + n, Check.ways(p, "x", n), paths[n]);
        }
    }

    private static void marksAndBarsDoNotBreakChains() {
        for (int how = 0; how <= 3; how++) {
            SpanParser p = Check.of("A:B", "B:C");
            p.mark(0, how);
            p.bar(0, 1, true);
            p.follow(Check.B, 'x', false);
            dueRound(p, "C:A");
            dueRound(p, "B:A");
        }
    }

    private static void aChainThatWentLeadsNowhere() {
        SpanParser p = Check.of("A:B", "B:C");
        dueRound(p, "C:A");
        p.undo();
        Check.due("B leads nowhere now", Check.rule(p, "C:A"), 1);
        dueRound(p, "B:C");
        dueRound(p, "B:A");
    }
}
