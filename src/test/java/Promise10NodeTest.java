/** Promise 10: the nodes of the tree, each before those below it, from the left on. */
public final class Promise10NodeTest {
    public static void main(String[] args) {
        preorder();
        shortestFirstOfEquals();
        firstRuleOfEquals();
        heavierBeatsShorter();
        equalByRoundingAlone();
        fourSymbols();
        wrongNumbers();
        missing();
        firstAndLastNode();
        firstAndLastWhat();
        asForWeight();
        Check.end();
    }

    private static void preorder() {
        SpanParser p = Check.of("A:(B)C", "B:@B", "B:@", "C:B", "C:#");
        Check.parse(p, "(ab)c", Check.A);
        Check.dueTree("tree", p, "0[0,5 4]1[1,3 1]2[2,3 0]3[4,5 1]2[4,5 0]");
        Check.parse(p, "(a)7", Check.A);
        Check.dueTree("another", p, "0[0,4 2]2[1,2 0]4[3,4 0]");
        Check.parse(p, "7", Check.C);
        Check.dueTree("one node", p, "4[0,1 0]");
    }

    private static void shortestFirstOfEquals() {
        SpanParser p = Check.of("A:BBB", "B:x", "B:xB");
        Check.due("ways", Check.parse(p, "xxxxx", Check.A), 6);
        Check.dueTree("first short, then second short", p,
                "0[0,5 5]1[0,1 0]1[1,2 0]2[2,5 2]2[3,5 1]1[4,5 0]");
    }

    private static void firstRuleOfEquals() {
        SpanParser p = new SpanParser();
        Check.rule(p, "A:x", 1.0);
        Check.rule(p, "A:x", 2.0);
        Check.rule(p, "A:x", 2.0);
        Check.rule(p, "B:A", 4.0);
        Check.rule(p, "B:xx", 4.0);
        Check.rule(p, "B:AA", 1.0);
        Check.due("ways", Check.parse(p, "x", Check.A), 3);
        Check.dueTree("at the top", p, "1[0,1 0]");
        Check.parse(p, "x", Check.B);
        Check.dueTree("below", p, "3[0,1 1]1[0,1 0]");
        Check.parse(p, "xx", Check.B);
        Check.dueTree("equal weights of 4", p, "4[0,2 0]");
    }

    private static void heavierBeatsShorter() {
        SpanParser p = new SpanParser();
        Check.rule(p, "A:BC", 1.0);
        Check.rule(p, "B:x", 1.0);
        Check.rule(p, "B:xx", 2.0);
        Check.rule(p, "C:x", 1.0);
        Check.rule(p, "C:xx", 1.0);
        Check.parse(p, "xxx", Check.A);
        Check.dueTree("the heavier one", p, "0[0,3 2]2[0,2 0]3[2,3 0]");
    }

    /**
     * Two prefixes differ by one step of the last place, and a factor below rounds them together:
     * then the shorter first span is taken, though the longer one was ahead before the last product.
     */
    private static void equalByRoundingAlone() {
        double small = 1.9;
        double large = Math.nextUp(small);
        double last = 0.6;
        boolean found = false;
        for (int i = 0; i < 1000 && !found; i++) {
            last = Math.nextUp(last);
            found = small * last == large * last;
        }
        Check.dueTrue("such a factor was found", found);
        SpanParser p = new SpanParser();
        Check.rule(p, "A:BCD", 1.0);
        Check.rule(p, "B:x", small);
        Check.rule(p, "B:xx", large);
        Check.rule(p, "C:x", 1.0);
        Check.rule(p, "C:xx", 1.0);
        Check.rule(p, "D:x", last);
        Check.due("ways", Check.parse(p, "xxxx", Check.A), 2);
        Check.dueTree("the shorter first span", p, "0[0,4 3]1[0,1 0]4[1,3 0]5[3,4 0]");
    }

    private static void fourSymbols() {
        SpanParser p = new SpanParser();
        Check.rule(p, "A:BBBB", 1.0);
        Check.rule(p, "B:x", 1.0);
        Check.rule(p, "B:xxx", 4.0);
        Check.due("ways", Check.parse(p, "xxxxxxxx", Check.A), 6);
        Check.dueTree("tree", p, "0[0,8 4]1[0,1 0]1[1,2 0]2[2,5 0]2[5,8 0]");
    }

    private static void wrongNumbers() {
        SpanParser p = Check.of("A:a");
        for (int what : new int[] {-1, 4, Integer.MIN_VALUE, Integer.MAX_VALUE}) {
            Check.dueThrow("before a parse, what " + what, Check.BAD, () -> p.node(0, what));
        }
        Check.parse(p, "a", Check.A);
        for (int what : new int[] {-1, 4, Integer.MIN_VALUE, Integer.MAX_VALUE}) {
            Check.dueThrow("what " + what, Check.BAD, () -> p.node(0, what));
            Check.dueThrow("no such node, what " + what, Check.BAD, () -> p.node(9, what));
        }
        for (int k : new int[] {-1, 1, 162, Integer.MIN_VALUE, Integer.MAX_VALUE}) {
            for (int what = 0; what < 4; what++) {
                int asked = what;
                Check.dueThrow("node " + k, Check.MISSING, () -> p.node(k, asked));
            }
        }
    }

    private static void missing() {
        SpanParser p = Check.of("A:AA", "A:a");
        Check.dueThrow("no parse", Check.MISSING, () -> p.node(0, 0));
        Check.parse(p, "aaa", Check.A);
        Check.due("there", p.node(4, 0), 1);
        Check.dueThrow("missing parse", Check.MISSING, () -> Check.parse(p, "ab", Check.A));
        Check.dueThrow("after a missing parse", Check.MISSING, () -> p.node(0, 0));
        Check.parse(p, "aaa", Check.A);
        p.follow(Check.B, 'x', false);
        Check.dueThrow("after a change", Check.MISSING, () -> p.node(0, 0));
    }

    private static void firstAndLastNode() {
        SpanParser p = Check.of("A:AA", "A:x");
        for (int length = 1; length <= 14; length++) {
            Check.parse(p, "x".repeat(length), Check.A);
            int nodes = 2 * length - 1;
            Check.due("nodes", p.count(3), nodes);
            Check.due("the first ends", p.node(0, 2), length);
            Check.due("below the first", p.node(0, 3), nodes - 1);
            Check.due("the last begins", p.node(nodes - 1, 1), length - 1);
            Check.due("below the last", p.node(nodes - 1, 3), 0);
            for (int what = 0; what <= 3; what++) {
                int asked = what;
                Check.dueThrow("before the first", Check.MISSING, () -> p.node(-1, asked));
                Check.dueThrow("behind the last", Check.MISSING, () -> p.node(nodes, asked));
            }
        }
    }

    private static void firstAndLastWhat() {
        SpanParser p = Check.of("B:b", "A:xBy");
        Check.parse(p, "xby", Check.A);
        int[] first = {1, 0, 3, 1};
        int[] second = {0, 1, 2, 0};
        for (int what = 0; what <= 3; what++) {
            Check.due("first, what " + what, p.node(0, what), first[what]);
            Check.due("second, what " + what, p.node(1, what), second[what]);
        }
        Check.dueThrow("below the first", Check.BAD, () -> p.node(0, -1));
        Check.dueThrow("above the last", Check.BAD, () -> p.node(0, 4));
        Check.dueThrow("and no such node", Check.BAD, () -> p.node(2, 4));
        Check.dueTree("the tree stays", p, "1[0,3 1]0[1,2 0]");
    }

    private static void asForWeight() {
        SpanParser p = Check.of("A:a", "B:b");
        Check.Call[] changes = {() -> p.mark(1, 1), () -> p.bar(1, 1, true), () -> p.follow(5, 'q', false),
            () -> p.undo(), () -> Check.rule(p, "C:c"), () -> Check.ways(p, "b", Check.A)};
        for (int i = 0; i < changes.length; i++) {
            Check.parse(p, "a", Check.A);
            Check.due("before change " + i, p.node(0, 2), 1);
            changes[i].run();
            for (int what = 0; what <= 3; what++) {
                int asked = what;
                Check.dueThrow("after change " + i, Check.MISSING, () -> p.node(0, asked));
            }
            Check.dueThrow("bad is bad still", Check.BAD, () -> p.node(0, 4));
        }
    }
}
