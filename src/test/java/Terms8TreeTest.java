/** Terms, "THE TREE": its nodes in order, from one node to as many as there may be. */
public final class Terms8TreeTest {
    public static void main(String[] args) {
        oneNode();
        charactersAreNoNodes();
        aNodeBeforeThoseBelowIt();
        fromTheLeftOn();
        chainsOverOneSpan();
        theLongestRow();
        theMostNodes();
        nodesBelowEach();
        ofTheLatestParse();
        Check.end();
    }

    private static void oneNode() {
        SpanParser p = Check.of("A:xyz#");
        Check.parse(p, "xyz7", Check.A);
        Check.dueTree("one", p, "0[0,4 0]");
        Check.dueThrow("no second", Check.MISSING, () -> p.node(1, 0));
        Check.dueThrow("none before it", Check.MISSING, () -> p.node(-1, 0));
    }

    private static void charactersAreNoNodes() {
        SpanParser p = Check.of("A:(B)", "B:x");
        Check.parse(p, "(x)", Check.A);
        Check.dueTree("two", p, "0[0,3 1]1[1,2 0]");
    }

    private static void aNodeBeforeThoseBelowIt() {
        SpanParser p = Check.of("A:xB", "B:yC", "C:z");
        Check.parse(p, "xyz", Check.A);
        Check.dueTree("down", p, "0[0,3 2]1[1,3 1]2[2,3 0]");
    }

    private static void fromTheLeftOn() {
        SpanParser p = Check.of("A:BBBB", "B:CC", "C:x");
        Check.parse(p, "xxxxxxxx", Check.A);
        Check.dueTree("all below the first before the second", p, "0[0,8 12]1[0,2 2]2[0,1 0]2[1,2 0]"
                + "1[2,4 2]2[2,3 0]2[3,4 0]1[4,6 2]2[4,5 0]2[5,6 0]1[6,8 2]2[6,7 0]2[7,8 0]");
    }

    private static void chainsOverOneSpan() {
        SpanParser p = Check.of("A:B", "B:C", "C:D", "D:E", "E:F", "F:x");
        Check.parse(p, "x", Check.A);
        Check.dueTree("six over one span", p, "0[0,1 5]1[0,1 4]2[0,1 3]3[0,1 2]4[0,1 1]5[0,1 0]");
    }

    private static void theLongestRow() {
        SpanParser left = Check.of("A:Ax", "A:x");
        Check.parse(left, "xxxxxxxxxxxxxx", Check.A);
        SpanParser right = Check.of("A:xA", "A:x");
        Check.parse(right, "xxxxxxxxxxxxxx", Check.A);
        for (int k = 0; k < 14; k++) {
            Check.due("left, rule of " + k, left.node(k, 0), k == 13 ? 1 : 0);
            Check.due("left, begin of " + k, left.node(k, 1), 0);
            Check.due("left, end of " + k, left.node(k, 2), 14 - k);
            Check.due("left, below " + k, left.node(k, 3), 13 - k);
            Check.due("right, begin of " + k, right.node(k, 1), k);
            Check.due("right, end of " + k, right.node(k, 2), 14);
            Check.due("right, below " + k, right.node(k, 3), 13 - k);
        }
        Check.dueThrow("no fifteenth", Check.MISSING, () -> left.node(14, 0));
    }

    /** Six nodes over each of 27 spans. */
    private static void theMostNodes() {
        SpanParser p = Check.of("A:B", "B:C", "C:D", "D:E", "E:F", "F:AA", "F:x");
        Check.parse(p, "xxxxxxxxxxxxxx", Check.A);
        Check.due("nodes", p.count(3), 162);
        Check.due("below the first", p.node(0, 3), 161);
        Check.due("the last one's rule", p.node(161, 0), 6);
        Check.due("its begin", p.node(161, 1), 13);
        Check.due("its end", p.node(161, 2), 14);
        Check.due("below it", p.node(161, 3), 0);
        Check.dueThrow("no more", Check.MISSING, () -> p.node(162, 0));
    }

    /** Whatever the tree: those below a node lie in its span, and what comes behind them doesn't. */
    private static void nodesBelowEach() {
        SpanParser p = Check.of("A:AAA", "A:BB", "B:A", "B:x", "B:xx");
        Check.parse(p, "xxxxxxxxxxxxx", Check.A);
        int nodes = p.count(3);
        int[] begins = new int[nodes];
        int[] ends = new int[nodes];
        for (int k = 0; k < nodes; k++) {
            begins[k] = p.node(k, 1);
            ends[k] = p.node(k, 2);
        }
        for (int k = 0; k < nodes; k++) {
            int behind = k + p.node(k, 3) + 1;
            for (int later = k + 1; later < nodes; later++) {
                boolean within = begins[later] >= begins[k] && ends[later] <= ends[k];
                Check.dueTrue("node " + later + " and " + k, within == later < behind);
            }
        }
    }

    private static void ofTheLatestParse() {
        SpanParser p = Check.of("A:AA", "A:x", "B:y");
        Check.parse(p, "xxx", Check.A);
        Check.parse(p, "y", Check.B);
        Check.dueTree("of the second", p, "2[0,1 0]");
        Check.parse(p, "xx", Check.A);
        Check.dueTree("of the third", p, "0[0,2 2]1[0,1 0]1[1,2 0]");
    }
}
