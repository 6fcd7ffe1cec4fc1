/** Promise 8: parse answers how many derivations there are, or that there is none. */
public final class Promise08ParseTest {
    public static void main(String[] args) {
        catalanNumbers();
        ternaryDivisions();
        fourSymbols();
        cutDown();
        chainsInAnyOrder();
        missing();
        bad();
        longestInput();
        firstAndLastNonterminal();
        shortestInput();
        emptyTextIsBad();
        goodForAllOfIt();
        noneOfItsRules();
        missingTakesTheText();
        Check.end();
    }

    private static String times(String text, int n) {
        return text.repeat(n);
    }

    private static void catalanNumbers() {
        SpanParser p = Check.of("A:AA", "A:x");
        int[] catalan = {1, 1, 2, 5, 14, 42, 132, 429, 1430, 4862, 16796, 58786, 208012, 742900};
        for (int length = 1; length <= 14; length++) {
            Check.due("length " + length, Check.parse(p, times("x", length), Check.A), catalan[length - 1]);
            Check.due("text", p.count(2), 0);
        }
    }

    private static void ternaryDivisions() {
        SpanParser p = Check.of("A:AAA", "A:x");
        int[] ways = {1, 0, 1, 0, 3, 0, 12, 0, 55, 0, 273, 0, 1428, 0};
        for (int length = 1; length <= 14; length++) {
            Check.due("length " + length, Check.ways(p, times("x", length), Check.A), ways[length - 1]);
        }
    }

    private static void fourSymbols() {
        SpanParser p = Check.of("A:BBBB", "B:x", "B:xB");
        for (int length = 4; length <= 14; length++) {
            int cuts = (length - 1) * (length - 2) * (length - 3) / 6;
            Check.due("length " + length, Check.parse(p, times("x", length), Check.A), cuts);
        }
        Check.due("too short", Check.ways(p, "xxx", Check.A), 0);
    }

    private static void cutDown() {
        SpanParser p = Check.of("A:AA", "A:x", "A:x");
        Check.due("742900 times 2 to the 14th", Check.parse(p, times("x", 14), Check.A), 1000000000);
        Check.due("of the rule", p.many(0, 0, 14), 1000000000);
        Check.due("not yet", p.many(0, 0, 12), 58786 * 4096);
        Check.due("just above", p.many(0, 0, 13), 1000000000);
        Check.rule(p, "B:A");
        Check.rule(p, "B:A");
        Check.rule(p, "C:B");
        Check.due("sums are cut down", Check.parse(p, times("x", 14), Check.B), 1000000000);
        Check.due("and what comes of them", Check.parse(p, times("x", 14), Check.C), 1000000000);
        SpanParser q = new SpanParser();
        for (int i = 0; i < 14; i++) {
            Check.rule(q, "A:x");
        }
        Check.rule(q, "A:AA");
        Check.rule(q, "B:AAAy");
        Check.due("products are cut down", Check.ways(q, times("x", 13) + "y", Check.B), 1000000000);
        Check.due("and may be nothing after all", Check.ways(q, times("x", 14), Check.B), 0);
    }

    private static void chainsInAnyOrder() {
        SpanParser up = Check.of("A:B", "B:C", "C:D", "D:E", "E:F", "F:x", "A:F", "B:F");
        Check.due("chains up", Check.parse(up, "x", Check.A), 3);
        SpanParser down = Check.of("F:E", "E:D", "D:C", "C:B", "B:A", "A:x", "F:A", "F:x");
        Check.due("chains down", Check.parse(down, "x", Check.F), 3);
        SpanParser mixed = Check.of("C:x", "E:A", "A:F", "F:C", "B:E", "E:C", "B:D", "D:E");
        Check.due("chains across", Check.parse(mixed, "x", Check.B), 4);
    }

    private static void missing() {
        SpanParser p = Check.of("A:ab");
        for (String input : new String[] {"a", "b", "ba", "abb", "aab", "AB", ":", "G", "ab:"}) {
            Check.dueThrow(input, Check.MISSING, () -> Check.parse(p, input, Check.A));
            Check.due("text after " + input, p.count(2), 0);
            Check.due("input " + input, p.count(4), input.length());
            Check.dueThrow("weight after " + input, Check.MISSING, p::weight);
        }
        Check.dueThrow("another nonterminal", Check.MISSING, () -> Check.parse(p, "ab", Check.B));
        Check.due("the right one", Check.parse(p, "ab", Check.A), 1);
    }

    private static void bad() {
        SpanParser p = Check.of("A:a");
        Check.dueThrow("unreadable", Check.BAD, () -> Check.rule(p, "A:a:"));
        Check.due("parsed", Check.parse(p, "a", Check.A), 1);
        Check.dueThrow("empty", Check.BAD, () -> p.parse(Check.A));
        Check.dueWeight("the latest parse stays", p.weight(), 1.0);
        Check.due("the place is that of a rule", p.count(1), 3);
        Check.type(p, "a");
        for (int n : new int[] {-1, 6, 7, Integer.MIN_VALUE, Integer.MAX_VALUE}) {
            Check.dueThrow("nonterminal " + n, Check.BAD, () -> p.parse(n));
            Check.due("the text stays", p.count(2), 1);
            Check.due("the input stays", p.count(4), 1);
        }
        Check.due("parsed again", p.parse(Check.A), 1);
    }

    private static void longestInput() {
        SpanParser p = Check.of("A:aA", "A:a");
        Check.due("fourteen", Check.parse(p, times("a", 14), Check.A), 1);
        Check.due("nodes", p.count(3), 14);
        Check.due("shorter again", Check.parse(p, "aa", Check.A), 1);
        Check.due("nodes", p.count(3), 2);
    }

    private static void firstAndLastNonterminal() {
        SpanParser p = Check.of("A:a", "B:b", "C:c", "D:d", "E:e", "F:f");
        for (int n = 0; n < 6; n++) {
            for (int c = 0; c < 6; c++) {
                String input = String.valueOf((char) ('a' + c));
                Check.due(input + " as " + n, Check.ways(p, input, n), n == c ? 1 : 0);
            }
        }
        Check.parse(p, "f", Check.F);
        Check.type(p, "ab");
        for (int n : new int[] {-1, 6, 32, -6}) {
            Check.dueThrow("as " + n, Check.BAD, () -> p.parse(n));
        }
        Check.due("the text stays", p.count(2), 2);
        Check.due("the input stays", p.count(4), 1);
        Check.dueTree("the tree stays", p, "5[0,1 0]");
        Check.due("what can be asked stays", p.many(5, 0, 1), 1);
    }

    private static void shortestInput() {
        SpanParser p = Check.of("A:a", "A:AA");
        Check.due("one character", Check.parse(p, "a", Check.A), 1);
        Check.due("input", p.count(4), 1);
        Check.due("over it", p.many(0, 0, 1), 1);
    }

    private static void emptyTextIsBad() {
        SpanParser p = Check.of("A:a");
        for (int n = -1; n <= 6; n++) {
            int as = n;
            Check.dueThrow("before any text, as " + n, Check.BAD, () -> p.parse(as));
        }
        Check.due("no place", p.count(1), -1);
        Check.due("no input", p.count(4), 0);
        Check.parse(p, "a", Check.A);
        Check.dueThrow("after a parse", Check.BAD, () -> p.parse(Check.A));
        Check.due("the input stays", p.count(4), 1);
        Check.dueWeight("the weight stays", p.weight(), 1.0);
        Check.dueThrow("a missing parse", Check.MISSING, () -> Check.parse(p, "bb", Check.A));
        Check.dueThrow("after a missing parse", Check.BAD, () -> p.parse(Check.A));
        Check.due("the input stays", p.count(4), 2);
        Check.due("and can be asked", p.many(0, 0, 1), 0);
        Check.dueThrow("unreadable", Check.BAD, () -> Check.rule(p, "A:a:"));
        Check.dueThrow("after an unreadable text", Check.BAD, () -> p.parse(Check.A));
        Check.due("the place stays", p.count(1), 3);
    }

    private static void goodForAllOfIt() {
        SpanParser p = Check.of("A:@", "A:x", "B:A", "B:@");
        p.mark(1, 1);
        Check.dueThrow("it has a derivation, but isn't good", Check.MISSING, () -> Check.parse(p, "x", Check.A));
        Check.due("the derivation", p.many(0, 0, 1), 1);
        Check.due("another nonterminal is", Check.parse(p, "x", Check.B), 1);
        Check.due("another input is", Check.parse(p, "y", Check.A), 1);
        p.follow(Check.A, 'x', false);
        p.follow(Check.A, 'y', false);
        Check.due("nothing follows all of it", Check.parse(p, "y", Check.A), 1);
    }

    private static void noneOfItsRules() {
        SpanParser p = Check.of("A:a");
        Check.dueThrow("no rules of it", Check.MISSING, () -> Check.parse(p, "a", Check.B));
        Check.dueThrow("none over it", Check.MISSING, () -> Check.parse(p, "b", Check.A));
        Check.dueThrow("none over all of it", Check.MISSING, () -> Check.parse(p, "aa", Check.A));
        p.mark(0, 1);
        Check.dueThrow("just rejecting ones", Check.MISSING, () -> Check.parse(p, "b", Check.A));
    }

    private static void missingTakesTheText() {
        SpanParser p = Check.of("A:a");
        Check.parse(p, "a", Check.A);
        Check.type(p, "abc");
        Check.dueThrow("missing", Check.MISSING, () -> p.parse(Check.A));
        Check.due("text", p.count(2), 0);
        Check.due("input", p.count(4), 3);
        Check.due("nodes", p.count(3), 0);
        Check.due("over the first", p.many(0, 0, 1), 1);
        Check.due("over the last", p.many(0, 2, 3), 0);
        Check.due("begun again", p.type('a'), 1);
    }
}
