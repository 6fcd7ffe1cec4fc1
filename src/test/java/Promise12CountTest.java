/** Promise 12: count answers five numbers of the object's state. */
public final class Promise12CountTest {
    public static void main(String[] args) {
        rules();
        place();
        text();
        nodesAndInput();
        elseMinusOne();
        Check.end();
    }

    private static void rules() {
        SpanParser p = new SpanParser();
        for (int r = 1; r <= 16; r++) {
            Check.rule(p, "A:a");
            Check.due("rules", p.count(0), r);
        }
        for (int r = 15; r >= 0; r--) {
            p.undo();
            Check.due("rules", p.count(0), r);
        }
    }

    private static void place() {
        SpanParser p = new SpanParser();
        Check.due("none", p.count(1), -1);
        Check.rule(p, "A:a");
        Check.due("none of a right one", p.count(1), -1);
        Check.dueThrow("unreadable", Check.BAD, () -> Check.rule(p, "A:abcdef"));
        Check.due("the fifth symbol", p.count(1), 6);
        Check.rule(p, "A:a");
        Check.due("a right one leaves it", p.count(1), 6);
        Check.dueThrow("unreadable", Check.BAD, () -> Check.rule(p, "A:"));
        Check.due("the latest", p.count(1), 2);
        Check.dueThrow("empty", Check.BAD, () -> p.rule(1.0));
        Check.due("its length", p.count(1), 0);
        Check.ways(p, "a", Check.A);
        p.undo();
        Check.due("it stays", p.count(1), 0);
    }

    private static void text() {
        SpanParser p = new SpanParser();
        Check.type(p, "abcdefghijklmn");
        Check.due("full", p.count(2), 14);
        Check.due("missing", Check.ways(p, "", Check.A), 0);
        Check.due("empty after a parse", p.count(2), 0);
        Check.type(p, "A:a");
        Check.due("three", p.count(2), 3);
        p.rule(1.0);
        Check.due("empty after a rule", p.count(2), 0);
    }

    private static void nodesAndInput() {
        SpanParser p = Check.of("A:AA", "A:a");
        Check.due("no tree", p.count(3), 0);
        Check.due("no input", p.count(4), 0);
        Check.parse(p, "aaaa", Check.A);
        Check.due("tree", p.count(3), 7);
        Check.due("input", p.count(4), 4);
        Check.type(p, "b");
        Check.due("a text is no input yet", p.count(4), 4);
        Check.dueThrow("missing", Check.MISSING, () -> p.parse(Check.A));
        Check.due("no tree of a missing parse", p.count(3), 0);
        Check.due("but its input", p.count(4), 1);
        Check.parse(p, "a", Check.A);
        p.mark(0, 3);
        Check.due("no tree after a change", p.count(3), 0);
        Check.due("and no input", p.count(4), 0);
    }

    private static void elseMinusOne() {
        SpanParser p = Check.of("A:a");
        Check.parse(p, "a", Check.A);
        for (int what : new int[] {-1, 5, 6, 100, Integer.MIN_VALUE, Integer.MAX_VALUE}) {
            Check.due("count " + what, p.count(what), -1);
        }
    }
}
