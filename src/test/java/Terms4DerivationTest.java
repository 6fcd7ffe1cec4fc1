/** Terms, "SPAN" and "DERIVATION": which symbols make up which spans. */
public final class Terms4DerivationTest {
    public static void main(String[] args) {
        aSpanGoesUp();
        placesFromNoneToTheLength();
        aCharacterSymbolOverOneCharacter();
        symbolsOneBehindAnother();
        noSymbolOverNothing();
        theyMakeItUp();
        aNonterminalByEachOfItsRules();
        notByItsRejectingRules();
        Check.end();
    }

    private static SpanParser parsed() {
        SpanParser p = Check.of("A:A@", "A:@");
        Check.parse(p, "abcd", Check.A);
        return p;
    }

    private static void aSpanGoesUp() {
        SpanParser p = parsed();
        for (int i = 0; i <= 4; i++) {
            for (int j = 0; j <= 4; j++) {
                int from = i;
                int to = j;
                if (i < j) {
                    Check.due("from " + i + " to " + j, p.many(0, i, j), j - i > 1 ? 1 : 0);
                } else {
                    Check.dueThrow("from " + i + " to " + j, Check.MISSING, () -> p.many(0, from, to));
                }
            }
        }
    }

    private static void placesFromNoneToTheLength() {
        SpanParser p = parsed();
        Check.due("before the first", p.many(1, 0, 1), 1);
        Check.due("behind the last", p.many(1, 3, 4), 1);
        Check.dueThrow("further before", Check.MISSING, () -> p.many(1, -1, 0));
        Check.dueThrow("further before", Check.MISSING, () -> p.many(1, -1, 1));
        Check.dueThrow("further behind", Check.MISSING, () -> p.many(1, 4, 5));
        Check.dueThrow("further behind", Check.MISSING, () -> p.many(1, 3, 5));
    }

    private static void aCharacterSymbolOverOneCharacter() {
        for (String symbol : new String[] {"x", "@", "#", "!"}) {
            String one = symbol.equals("#") ? "7" : symbol.equals("@") ? "x" : symbol;
            SpanParser p = Check.of("A:" + symbol, "B:" + symbol + symbol);
            Check.due("one", Check.ways(p, one, Check.A), 1);
            Check.due("two", Check.ways(p, one + one, Check.A), 0);
            Check.due("two symbols over two", Check.ways(p, one + one, Check.B), 1);
            Check.due("two symbols over one", Check.ways(p, one, Check.B), 0);
        }
    }

    private static void symbolsOneBehindAnother() {
        SpanParser p = Check.of("A:BCDE", "B:b", "C:c", "D:d", "E:e");
        Check.due("in order", Check.ways(p, "bcde", Check.A), 1);
        for (String input : new String[] {"cbde", "bdce", "bced", "edcb", "bbcde", "bcdee", "bcd", "cde", "bxcde"}) {
            Check.due(input, Check.ways(p, input, Check.A), 0);
        }
    }

    private static void noSymbolOverNothing() {
        SpanParser p = Check.of("A:BB", "A:BBB", "A:BBBB", "B:x", "B:xx", "B:xxx");
        int[] ways = {0, 1, 3, 7, 12};
        for (int length = 1; length <= 5; length++) {
            Check.due("length " + length, Check.ways(p, "x".repeat(length), Check.A), ways[length - 1]);
        }
    }

    private static void theyMakeItUp() {
        SpanParser p = Check.of("A:B+B", "B:@@", "B:@");
        Check.due("all of it", Check.ways(p, "ab+cd", Check.A), 1);
        Check.due("one too many in front", Check.ways(p, "zab+cd", Check.A), 0);
        Check.due("one too many behind", Check.ways(p, "ab+cdz", Check.A), 0);
        Check.due("but it is there", p.many(0, 0, 5), 1);
        Check.due("and a shorter one", p.many(0, 1, 4), 1);
    }

    private static void aNonterminalByEachOfItsRules() {
        SpanParser p = Check.of("A:B", "B:x", "B:@", "B:C", "C:x", "D:x");
        Check.due("three rules of B", Check.ways(p, "x", Check.A), 3);
        p.mark(1, 2);
        p.mark(2, 3);
        Check.due("leaning ones too", Check.ways(p, "x", Check.A), 3);
    }

    private static void notByItsRejectingRules() {
        SpanParser p = Check.of("A:B", "B:x", "B:y");
        p.mark(2, 1);
        Check.due("none by the rejecting rule", Check.ways(p, "y", Check.A), 0);
        Check.due("which has one itself", p.many(2, 0, 1), 1);
        Check.due("the other rule", Check.ways(p, "x", Check.A), 1);
    }
}
