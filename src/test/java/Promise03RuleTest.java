/** Promise 3: rule reads the text as a new rule, or says in its order what stands against it. */
public final class Promise03RuleTest {
    public static void main(String[] args) {
        numbers();
        symbols();
        weights();
        unreadable();
        noRoom();
        chains();
        failuresKeepTheParse();
        textStaysAfterAWrongWeight();
        textIsEmptyAfterEachRefusal();
        placeIsOfUnreadableTextsAlone();
        Check.end();
    }

    private static void numbers() {
        SpanParser p = new SpanParser();
        for (int r = 0; r < 16; r++) {
            Check.due("rule " + r, Check.rule(p, "A:a"), r);
            Check.due("text", p.count(2), 0);
        }
        Check.due("rules", p.count(0), 16);
        Check.due("the same rule sixteen times", Check.ways(p, "a", Check.A), 16);
    }

    private static void symbols() {
        for (int c = 33; c <= 126; c++) {
            boolean right = c != ':' && (c < 'G' || c > 'Z');
            SpanParser p = new SpanParser();
            String text = "A:" + (char) c + "b";
            if (right) {
                Check.due(text, Check.rule(p, text), 0);
            } else {
                Check.dueThrow(text, Check.BAD, () -> Check.rule(p, text));
                Check.due("place of " + text, p.count(1), 2);
            }
            for (int d = 33; d <= 126; d++) {
                Check.due(text + " over " + (char) d, Check.ways(p, (char) d + "b", Check.A), standsFor(c, d));
            }
        }
    }

    private static int standsFor(int symbol, int c) {
        if (symbol == '#') {
            return c >= '0' && c <= '9' ? 1 : 0;
        }
        if (symbol == '@') {
            return c >= 'a' && c <= 'z' ? 1 : 0;
        }
        return symbol == c && symbol != ':' && (symbol < 'A' || symbol > 'Z') ? 1 : 0;
    }

    private static void weights() {
        SpanParser p = new SpanParser();
        Check.type(p, "A:a");
        double[] wrong = {0.0, -1.0, Math.nextDown(0.125), Math.nextUp(8.0), 16.0, Double.NaN,
            Double.POSITIVE_INFINITY, Double.NEGATIVE_INFINITY};
        for (double weight : wrong) {
            Check.dueThrow("weight " + weight, Check.BAD, () -> p.rule(weight));
            Check.due("the text stays", p.count(2), 3);
        }
        Check.due("no place of a weight", p.count(1), -1);
        Check.due("lightest", p.rule(0.125), 0);
        Check.due("heaviest", Check.rule(p, "B:b", 8.0), 1);
        Check.parse(p, "a", Check.A);
        Check.dueWeight("lightest", p.weight(), 0.125);
        Check.parse(p, "b", Check.B);
        Check.dueWeight("heaviest", p.weight(), 8.0);
    }

    private static void unreadable() {
        SpanParser p = new SpanParser();
        String[] texts = {"", "A", "A:", "a", ":", "G:a", "@:a", "AA", "A;a", "A::", "A:a:", "A:G", "A:aZ", "A:abcde",
            "A:abcd:", "A:abc:", "A:abcdefghijkl", "F", "F:"};
        int[] places = {0, 1, 2, 0, 0, 0, 0, 1, 1, 2, 3, 2, 3, 6, 6, 5, 6, 1, 2};
        for (int i = 0; i < texts.length; i++) {
            String text = texts[i];
            Check.dueThrow("rule " + text, Check.BAD, () -> Check.rule(p, text));
            Check.due("place of " + text, p.count(1), places[i]);
            Check.due("text after " + text, p.count(2), 0);
        }
        Check.due("no rule came", p.count(0), 0);
        Check.due("one to four symbols", Check.rule(p, "A:a"), 0);
        Check.due("one to four symbols", Check.rule(p, "F:FFFF"), 1);
    }

    private static void noRoom() {
        SpanParser p = new SpanParser();
        for (int r = 0; r < 16; r++) {
            Check.rule(p, "A:a");
        }
        Check.type(p, "B:b");
        Check.dueThrow("a wrong weight comes first", Check.BAD, () -> p.rule(9.0));
        Check.due("the text stays", p.count(2), 3);
        Check.dueThrow("seventeenth", Check.NO_ROOM, () -> p.rule(1.0));
        Check.due("the text is empty", p.count(2), 0);
        Check.dueThrow("it isn't read", Check.NO_ROOM, () -> Check.rule(p, "A;"));
        Check.dueThrow("nor looked at for chains", Check.NO_ROOM, () -> Check.rule(p, "A:A"));
        Check.due("so there is no place", p.count(1), -1);
        p.undo();
        Check.due("room again", Check.rule(p, "B:b"), 15);
    }

    private static void chains() {
        SpanParser p = Check.of("A:B", "B:C", "C:D", "D:E", "E:F");
        String[] round = {"F:F", "F:A", "F:E", "C:A", "E:B", "B:A", "A:A"};
        for (String text : round) {
            Check.dueThrow(text, Check.ROUND, () -> Check.rule(p, text));
            Check.due("text after " + text, p.count(2), 0);
            Check.due("rules after " + text, p.count(0), 5);
            Check.due("place after " + text, p.count(1), -1);
        }
        Check.due("forward twice", Check.rule(p, "A:B"), 5);
        Check.due("forward over some", Check.rule(p, "A:F"), 6);
        Check.due("no chain", Check.rule(p, "F:AA"), 7);
        Check.due("no chain", Check.rule(p, "F:Ax"), 8);
        p.mark(0, 1);
        p.bar(0, 1, true);
        Check.dueThrow("marked and barred chains are chains", Check.ROUND, () -> Check.rule(p, "B:A"));
        SpanParser q = Check.of("A:B", "B:C");
        q.undo();
        Check.due("a chain that went leads nowhere", Check.rule(q, "C:A"), 1);
        Check.dueThrow("but now", Check.ROUND, () -> Check.rule(q, "B:C"));
    }

    private static void failuresKeepTheParse() {
        SpanParser p = Check.of("A:a");
        Check.parse(p, "a", Check.A);
        Check.dueThrow("bad text", Check.BAD, () -> Check.rule(p, "A"));
        Check.dueThrow("bad weight", Check.BAD, () -> p.rule(0.0));
        Check.dueThrow("round", Check.ROUND, () -> Check.rule(p, "A:A"));
        Check.dueWeight("weight", p.weight(), 1.0);
        Check.rule(p, "B:b");
        Check.dueThrow("weight after a rule", Check.MISSING, p::weight);
    }

    private static void textStaysAfterAWrongWeight() {
        SpanParser p = new SpanParser();
        Check.type(p, "A:a");
        Check.dueThrow("too light", Check.BAD, () -> p.rule(0.1));
        Check.type(p, "b");
        Check.dueThrow("too heavy", Check.BAD, () -> p.rule(8.5));
        Check.due("the text goes on", p.rule(1.0), 0);
        Check.due("both parts", Check.ways(p, "ab", Check.A), 1);
        Check.type(p, "A;");
        Check.dueThrow("unreadable, but not read", Check.BAD, () -> p.rule(9.0));
        Check.due("the text stays", p.count(2), 2);
        Check.due("no place", p.count(1), -1);
        Check.dueThrow("now it is read", Check.BAD, () -> p.rule(8.0));
        Check.due("place", p.count(1), 1);
        Check.due("empty", p.count(2), 0);
        Check.type(p, "A:A");
        Check.dueThrow("round, but not read", Check.BAD, () -> p.rule(0.0));
        Check.due("the text stays", p.count(2), 3);
        Check.dueThrow("now it is", Check.ROUND, () -> p.rule(0.125));
    }

    private static void textIsEmptyAfterEachRefusal() {
        SpanParser p = Check.of("A:B");
        Check.dueThrow("bad", Check.BAD, () -> Check.rule(p, "A:a:"));
        Check.due("only what comes then", Check.rule(p, "C:c"), 1);
        Check.dueThrow("round", Check.ROUND, () -> Check.rule(p, "B:A"));
        Check.due("only what comes then", Check.rule(p, "D:d"), 2);
        while (p.count(0) < 16) {
            Check.rule(p, "F:f");
        }
        Check.dueThrow("no room", Check.NO_ROOM, () -> Check.rule(p, "E:e"));
        p.undo();
        Check.due("only what comes then", Check.rule(p, "E:g"), 15);
        Check.due("the refused one isn't there", Check.ways(p, "e", Check.E), 0);
        Check.due("the later one is", Check.ways(p, "g", Check.E), 1);
    }

    private static void placeIsOfUnreadableTextsAlone() {
        SpanParser p = Check.of("A:B");
        Check.dueThrow("unreadable", Check.BAD, () -> Check.rule(p, "A:abc:"));
        Check.due("place", p.count(1), 5);
        Check.dueThrow("round", Check.ROUND, () -> Check.rule(p, "B:A"));
        Check.due("after a round one", p.count(1), 5);
        Check.dueThrow("weight", Check.BAD, () -> Check.rule(p, "x", 9.0));
        Check.due("after a wrong weight", p.count(1), 5);
        Check.dueThrow("now unreadable", Check.BAD, () -> p.rule(1.0));
        Check.due("place", p.count(1), 0);
        while (p.count(0) < 16) {
            Check.rule(p, "F:f");
        }
        Check.dueThrow("no room", Check.NO_ROOM, () -> Check.rule(p, "A:a:"));
        Check.due("after no room", p.count(1), 0);
    }
}
