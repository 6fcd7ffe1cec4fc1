/** Promise 12: count answers five numbers of the object's state. */
public final class Promise12CountTest {
    public static void main(String[] args) {
        rules();
        place();
        text();
        nodesAndInput();
        elseMinusOne();
        everyWhat();
        placeOfTheLatestUnreadable();
        inputOfTheLatestParse();
        Check.end();
    }

    private static void rules() {
        SpanParser p = new SpanParser();
        for (int r = 1; r <= 16; r++) {
            Check.rule(p, "A:a");
            Check.due("rules", p.count(0), r);
        }
        for (int r = 15; r >= 0; r--) {
            p.undo();
            Check.due("rules", p.count(0), r);
        }
    }

    private static void place() {
        SpanParser p = new SpanParser();
        Check.due("none", p.count(1), -1);
        Check.rule(p, "A:a");
        Check.due("none of a right one", p.count(1), -1);
        Check.dueThrow("unreadable", Check.BAD, () -> Check.rule(p, "A:abcdef"));
        Check.due("the fifth symbol", p.count(1), 6);
        Check.rule(p, "A:a");
        Check.due("a right one leaves it", p.count(1), 6);
        Check.dueThrow("unreadable", Check.BAD, () -> Check.rule(p, "A:"));
        Check.due("the latest", p.count(1), 2);
        Check.dueThrow("empty", Check.BAD, () -> p.rule(1.0));
        Check.due("its length", p.count(1), 0);
        Check.ways(p, "a", Check.A);
        p.undo();
        Check.due("it stays", p.count(1), 0);
    }

    private static void text() {
        SpanParser p = new SpanParser();
        Check.type(p, "abcdefghijklmn");
        Check.due("full", p.count(2), 14);
        Check.due("missing", Check.ways(p, "", Check.A), 0);
        Check.due("empty after a parse", p.count(2), 0);
        Check.type(p, "A:a");
        Check.due("three", p.count(2), 3);
        p.rule(1.0);
        Check.due("empty after a rule", p.count(2), 0);
    }

    private static void nodesAndInput() {
        SpanParser p = Check.of("A:AA", "A:a");
        Check.due("no tree", p.count(3), 0);
        Check.due("no input", p.count(4), 0);
        Check.parse(p, "aaaa", Check.A);
        Check.due("tree", p.count(3), 7);
        Check.due("input", p.count(4), 4);
        Check.type(p, "b");
        Check.due("a text is no input yet", p.count(4), 4);
        Check.dueThrow("missing", Check.MISSING, () -> p.parse(Check.A));
        Check.due("no tree of a missing parse", p.count(3), 0);
        Check.due("but its input", p.count(4), 1);
        Check.parse(p, "a", Check.A);
        p.mark(0, 3);
        Check.due("no tree after a change", p.count(3), 0);
        Check.due("and no input", p.count(4), 0);
    }

    private static void elseMinusOne() {
        SpanParser p = Check.of("A:a");
        Check.parse(p, "a", Check.A);
        for (int what : new int[] {-1, 5, 6, 100, Integer.MIN_VALUE, Integer.MAX_VALUE}) {
            Check.due("count " + what, p.count(what), -1);
        }
    }

    private static void everyWhat() {
        SpanParser p = Check.of("A:AA", "A:a");
        Check.dueThrow("unreadable", Check.BAD, () -> Check.rule(p, "A:aa:"));
        Check.parse(p, "aaa", Check.A);
        Check.type(p, "bbbbbb");
        int[] want = {-1, 2, 4, 6, 5, 3, -1};
        for (int what = -1; what <= 5; what++) {
            Check.due("count " + what, p.count(what), want[what + 1]);
        }
    }

    private static void placeOfTheLatestUnreadable() {
        SpanParser p = new SpanParser();
        Check.due("there was none", p.count(1), -1);
        Check.dueThrow("no input either", Check.BAD, () -> p.parse(Check.A));
        Check.dueThrow("a wrong byte", Check.BAD, () -> p.type(7));
        Check.due("these were no rules", p.count(1), -1);
        String[] texts = {"A:abcde", "A:abc:", "A:ab:", "A:a:", "A:", "A", "", "A:abcd:"};
        int[] places = {6, 5, 4, 3, 2, 1, 0, 6};
        for (int i = 0; i < texts.length; i++) {
            String text = texts[i];
            Check.dueThrow(text, Check.BAD, () -> Check.rule(p, text));
            Check.due("place of " + text, p.count(1), places[i]);
        }
        Check.rule(p, "A:a");
        p.mark(0, 2);
        p.bar(0, 0, true);
        p.follow(Check.A, 'a', false);
        Check.parse(p, "a", Check.A);
        p.undo();
        Check.due("nothing else sets it", p.count(1), 6);
    }

    private static void inputOfTheLatestParse() {
        SpanParser p = Check.of("A:a");
        for (int length = 1; length <= 14; length++) {
            Check.ways(p, "a".repeat(length), Check.A);
            Check.due("input", p.count(4), length);
            Check.due("nodes", p.count(3), length == 1 ? 1 : 0);
        }
        Check.Call[] changes = {() -> p.mark(0, 0), () -> p.bar(0, 0, false), () -> p.follow(0, 'a', true),
            () -> Check.rule(p, "A:a"), () -> p.undo()};
        for (int i = 0; i < changes.length; i++) {
            Check.parse(p, "a", Check.A);
            changes[i].run();
            Check.due("no input after change " + i, p.count(4), 0);
            Check.due("no nodes after change " + i, p.count(3), 0);
        }
    }
}
