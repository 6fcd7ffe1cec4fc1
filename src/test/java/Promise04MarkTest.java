/** Promise 4: marks decide what rejects and what may stand at a rule's ends. */
public final class Promise04MarkTest {
    public static void main(String[] args) {
        leaning();
        leaningConcernsTheRuleItselfAlone();
        leaningOfFourSymbols();
        rejecting();
        rejectingThroughChains();
        wrongNumbers();
        goesWithTheRule();
        forgetsTheParse();
        firstAndLastRule();
        firstAndLastMark();
        aRefusedMarkLeavesTheMark();
        Check.end();
    }

    private static void leaning() {
        SpanParser p = Check.of("A:A+A", "A:#");
        Check.due("plain", Check.ways(p, "1+2+3", Check.A), 2);
        p.mark(0, 2);
        Check.due("leaning left", Check.ways(p, "1+2+3", Check.A), 1);
        Check.dueTree("leaning left", p, "0[0,5 4]0[0,3 2]1[0,1 0]1[2,3 0]1[4,5 0]");
        p.mark(0, 3);
        Check.due("leaning right", Check.ways(p, "1+2+3", Check.A), 1);
        Check.dueTree("leaning right", p, "0[0,5 4]1[0,1 0]0[2,5 2]1[2,3 0]1[4,5 0]");
        p.mark(0, 0);
        Check.due("plain again", Check.ways(p, "1+2+3+4+5+6+7", Check.A), 132);
    }

    private static void leaningConcernsTheRuleItselfAlone() {
        SpanParser p = Check.of("A:A+A", "A:A*A", "A:#");
        p.mark(0, 2);
        Check.due("another rule at the end", Check.ways(p, "1+2*3", Check.A), 2);
        Check.due("itself below another", Check.ways(p, "1+2*3+4", Check.A), 4);
        SpanParser q = Check.of("A:B+B", "B:A", "B:#");
        q.mark(0, 2);
        Check.due("itself below a chain", Check.ways(q, "1+2+3", Check.A), 2);
    }

    private static void leaningOfFourSymbols() {
        SpanParser p = Check.of("A:AAAA", "A:x");
        Check.due("plain", Check.ways(p, "xxxxxxx", Check.A), 4);
        p.mark(0, 2);
        Check.due("not as the last", Check.ways(p, "xxxxxxx", Check.A), 3);
        p.mark(0, 3);
        Check.due("not as the first", Check.ways(p, "xxxxxxx", Check.A), 3);
        Check.dueTree("the second is the last to grow", p, "0[0,7 8]1[0,1 0]1[1,2 0]1[2,3 0]0[3,7 4]"
                + "1[3,4 0]1[4,5 0]1[5,6 0]1[6,7 0]");
    }

    private static void rejecting() {
        SpanParser p = Check.of("A:@@", "A:if", "B:A", "B:A@");
        Check.due("plain", Check.ways(p, "if", Check.A), 2);
        p.mark(1, 1);
        Check.due("rejected", Check.ways(p, "if", Check.A), 0);
        Check.due("many of the rejecting rule", p.many(1, 0, 2), 1);
        Check.due("many of the other", p.many(0, 0, 2), 1);
        Check.due("many above", p.many(2, 0, 2), 0);
        Check.due("another text", Check.ways(p, "of", Check.A), 1);
        Check.due("rejected below", Check.ways(p, "ifx", Check.B), 0);
        Check.due("not rejected below", Check.ways(p, "ofx", Check.B), 1);
        p.mark(0, 1);
        Check.due("rejecting rules derive nothing", Check.ways(p, "of", Check.A), 0);
        Check.due("nor below", Check.ways(p, "of", Check.B), 0);
        p.mark(0, 0);
        p.mark(1, 0);
        Check.due("plain again", Check.ways(p, "if", Check.B), 2);
    }

    private static void rejectingThroughChains() {
        SpanParser p = Check.of("A:@", "A:@A", "A:B", "B:if", "B:F", "F:of");
        p.mark(2, 1);
        Check.due("a rejecting chain", Check.ways(p, "if", Check.A), 0);
        Check.due("over two chains", Check.ways(p, "of", Check.A), 0);
        Check.due("what it rejects isn't there", Check.ways(p, "iff", Check.A), 1);
        p.bar(2, 3, true);
        Check.due("bars hold below a rejecting rule", Check.ways(p, "if", Check.A), 1);
        Check.due("and others reject still", Check.ways(p, "of", Check.A), 0);
        p.mark(5, 1);
        Check.due("what is rejected itself rejects nothing", Check.ways(p, "of", Check.A), 1);
    }

    private static void wrongNumbers() {
        SpanParser p = Check.of("A:a", "A:b");
        int[][] wrong = {{-1, 0}, {2, 0}, {16, 0}, {0, -1}, {0, 4}, {1, 100}, {Integer.MAX_VALUE, 1},
            {Integer.MIN_VALUE, 1}, {0, Integer.MIN_VALUE}};
        Check.parse(p, "a", Check.A);
        for (int[] pair : wrong) {
            Check.dueThrow("mark " + pair[0] + " " + pair[1], Check.BAD, () -> p.mark(pair[0], pair[1]));
        }
        Check.dueWeight("a bad mark changes nothing", p.weight(), 1.0);
    }

    private static void goesWithTheRule() {
        SpanParser p = Check.of("A:@", "A:i");
        p.mark(1, 1);
        p.undo();
        Check.rule(p, "A:i");
        Check.due("a new rule is plain", Check.ways(p, "i", Check.A), 2);
    }

    private static void forgetsTheParse() {
        SpanParser p = Check.of("A:a", "B:b");
        Check.parse(p, "a", Check.A);
        p.mark(1, 2);
        Check.dueThrow("weight", Check.MISSING, p::weight);
        Check.dueThrow("node", Check.MISSING, () -> p.node(0, 0));
        Check.dueThrow("many", Check.MISSING, () -> p.many(0, 0, 1));
        Check.due("nodes", p.count(3), 0);
        Check.due("input", p.count(4), 0);
    }

    private static void firstAndLastRule() {
        for (int rules = 1; rules <= 16; rules++) {
            SpanParser p = new SpanParser();
            for (int r = 0; r < rules; r++) {
                Check.rule(p, "A:@");
            }
            int count = rules;
            Check.dueThrow("before the first", Check.BAD, () -> p.mark(-1, 1));
            Check.dueThrow("behind the last", Check.BAD, () -> p.mark(count, 1));
            Check.due("none is rejecting", Check.ways(p, "x", Check.A), rules);
            p.mark(rules - 1, 1);
            Check.due("the last is rejecting", Check.ways(p, "x", Check.A), 0);
            p.mark(rules - 1, 0);
            p.mark(0, 1);
            Check.due("the first is rejecting", Check.ways(p, "x", Check.A), 0);
        }
        SpanParser none = new SpanParser();
        Check.dueThrow("no rule", Check.BAD, () -> none.mark(0, 0));
    }

    private static void firstAndLastMark() {
        int[] ways = {4, 0, 3, 3};
        SpanParser p = Check.of("A:AAAA", "A:x");
        for (int how = 0; how <= 3; how++) {
            p.mark(0, how);
            Check.due("mark " + how, Check.ways(p, "xxxxxxx", Check.A), ways[how]);
        }
        p.mark(0, 2);
        Check.dueThrow("below the first", Check.BAD, () -> p.mark(0, -1));
        Check.dueThrow("above the last", Check.BAD, () -> p.mark(0, 4));
        Check.due("leaning left still", Check.ways(p, "xxxxxxx", Check.A), 3);
    }

    private static void aRefusedMarkLeavesTheMark() {
        SpanParser p = Check.of("A:A-A", "A:x");
        p.mark(0, 3);
        int[][] wrong = {{0, -1}, {0, 4}, {-1, 0}, {2, 0}, {0, 256}, {16, 2}};
        for (int[] pair : wrong) {
            Check.dueThrow("mark " + pair[0] + " " + pair[1], Check.BAD, () -> p.mark(pair[0], pair[1]));
        }
        Check.due("one way", Check.parse(p, "x-x-x", Check.A), 1);
        Check.dueTree("leaning right", p, "0[0,5 4]1[0,1 0]0[2,5 2]1[2,3 0]1[4,5 0]");
    }
}
