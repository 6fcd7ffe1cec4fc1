/** Terms, "ALLOWED" and "GOOD": what may stand under a rule, and which spans a nonterminal may have. */
public final class Terms5AllowedTest {
    public static void main(String[] args) {
        leaningLeftIsOfTheLastSymbolAlone();
        leaningRightIsOfTheFirstSymbolAlone();
        leaningIsOfTheRuleItself();
        leaningWithACharacterAtTheEnd();
        leaningOfOneSymbol();
        barredUnderEverySymbol();
        barredAndLeaning();
        rejectedOverJustThatSpan();
        oneRejectingRuleIsEnough();
        rejectingIsAskedBelow();
        theCharacterRightBehind();
        noCharacterBehindTheLast();
        followIsOfEverySpanBelow();
        Check.end();
    }

    /** A rule of so many symbols that holds itself once, as the k-th. */
    private static SpanParser selfAt(int k, int symbols, int how) {
        StringBuilder text = new StringBuilder("A:");
        for (int i = 0; i < symbols; i++) {
            text.append(i == k ? 'A' : '-');
        }
        SpanParser p = Check.of(text.toString(), "A:x");
        p.mark(0, how);
        return p;
    }

    private static String nested(int k, int symbols, String inner) {
        return "-".repeat(k) + inner + "-".repeat(symbols - 1 - k);
    }

    private static void dueNested(int how, int symbols, int refused) {
        for (int k = 0; k < symbols; k++) {
            SpanParser p = selfAt(k, symbols, how);
            String once = nested(k, symbols, "x");
            String what = "mark " + how + ", symbol " + k + " of " + symbols;
            Check.due(what + ", another rule", Check.ways(p, once, Check.A), 1);
            Check.due(what + ", itself", Check.ways(p, nested(k, symbols, once), Check.A), k == refused ? 0 : 1);
        }
    }

    private static void leaningLeftIsOfTheLastSymbolAlone() {
        for (int symbols = 2; symbols <= 4; symbols++) {
            dueNested(2, symbols, symbols - 1);
        }
    }

    private static void leaningRightIsOfTheFirstSymbolAlone() {
        for (int symbols = 2; symbols <= 4; symbols++) {
            dueNested(3, symbols, 0);
            dueNested(0, symbols, -1);
        }
    }

    private static void leaningIsOfTheRuleItself() {
        for (int how = 2; how <= 3; how++) {
            SpanParser p = Check.of("A:A-A", "A:A-A", "A:x");
            p.mark(0, how);
            // Of the eight pairs of rules and sides only the marked one under itself on one side goes.
            Check.due("the same rule of another number", Check.ways(p, "x-x-x", Check.A), 7);
            SpanParser q = Check.of("A:B-B", "B:A", "B:x");
            q.mark(0, how);
            Check.due("not right under itself", Check.ways(q, "x-x-x", Check.A), 2);
        }
    }

    private static void leaningWithACharacterAtTheEnd() {
        SpanParser left = Check.of("A:A-", "A:x");
        left.mark(0, 2);
        Check.due("the last symbol is a character", Check.ways(left, "x---", Check.A), 1);
        left.mark(0, 3);
        Check.due("the first is itself", Check.ways(left, "x---", Check.A), 0);
        SpanParser right = Check.of("A:-A", "A:x");
        right.mark(0, 3);
        Check.due("the first symbol is a character", Check.ways(right, "---x", Check.A), 1);
        right.mark(0, 2);
        Check.due("the last is itself", Check.ways(right, "---x", Check.A), 0);
    }

    /** A chain can't have itself right below, so that leaning takes nothing from it. */
    private static void leaningOfOneSymbol() {
        for (int how = 2; how <= 3; how++) {
            SpanParser p = Check.of("A:B", "B:x", "B:(A)");
            p.mark(0, how);
            p.mark(1, how);
            Check.due("a chain", Check.ways(p, "x", Check.A), 1);
            Check.due("and again below another rule", Check.ways(p, "((x))", Check.A), 1);
        }
    }

    private static void barredUnderEverySymbol() {
        for (int symbols = 1; symbols <= 4; symbols++) {
            SpanParser p = Check.of("A:" + "B".repeat(symbols), "B:x", "B:y");
            p.bar(0, 2, true);
            for (int k = 0; k < symbols; k++) {
                String input = "x".repeat(k) + "y" + "x".repeat(symbols - 1 - k);
                Check.due(input, Check.ways(p, input, Check.A), 0);
                Check.due("the other rule", Check.ways(p, "x".repeat(symbols), Check.A), 1);
            }
        }
    }

    private static void barredAndLeaning() {
        SpanParser p = Check.of("A:A-A", "A:x");
        p.mark(0, 2);
        p.bar(0, 0, true);
        Check.due("barred on the left, too", Check.ways(p, "x-x-x", Check.A), 0);
        p.bar(0, 0, false);
        Check.due("leaning still", Check.ways(p, "x-x-x", Check.A), 1);
        p.mark(0, 0);
        Check.due("free", Check.ways(p, "x-x-x", Check.A), 2);
    }

    private static void rejectedOverJustThatSpan() {
        SpanParser p = Check.of("A:B-B", "B:@", "B:@B", "B:if");
        p.mark(3, 1);
        for (String input : new String[] {"i-f", "f-i", "iff-x", "x-iff", "fi-x"}) {
            Check.due(input, Check.ways(p, input, Check.A), 1);
        }
        for (String input : new String[] {"if-x", "x-if", "if-if", "x-iif"}) {
            Check.due(input, Check.ways(p, input, Check.A), 0);
        }
    }

    private static void oneRejectingRuleIsEnough() {
        SpanParser p = Check.of("A:x", "A:@", "A:x", "A:y", "B:x");
        p.mark(3, 1);
        Check.due("a rejecting rule of another text", Check.ways(p, "x", Check.A), 3);
        p.mark(2, 1);
        Check.due("two others have one", Check.ways(p, "x", Check.A), 0);
        Check.due("their own number stays", p.many(0, 0, 1), 1);
        p.mark(2, 0);
        p.mark(4, 1);
        Check.due("a rejecting rule of another nonterminal", Check.ways(p, "x", Check.A), 3);
    }

    private static void rejectingIsAskedBelow() {
        SpanParser p = Check.of("A:@", "A:BB", "B:x", "B:y", "A:@@");
        p.mark(1, 1);
        Check.due("rejected", Check.ways(p, "xy", Check.A), 0);
        p.bar(1, 3, true);
        Check.due("a barred rule doesn't make it reject", Check.ways(p, "xy", Check.A), 1);
        p.bar(1, 3, false);
        p.follow(Check.B, 'y', false);
        Check.due("nor one that may not stand there", Check.ways(p, "xy", Check.A), 1);
        Check.due("elsewhere it rejects", Check.ways(p, "yx", Check.A), 0);
    }

    private static void theCharacterRightBehind() {
        SpanParser p = Check.of("A:B@@", "B:x");
        p.follow(Check.B, 'y', false);
        Check.due("right behind", Check.ways(p, "xyz", Check.A), 0);
        Check.due("one further", Check.ways(p, "xzy", Check.A), 1);
        SpanParser q = Check.of("A:@B@", "B:@@");
        q.follow(Check.B, 'y', false);
        Check.due("in front of it", Check.ways(q, "yxxz", Check.A), 1);
        Check.due("inside it", Check.ways(q, "xxyz", Check.A), 1);
        Check.due("behind it", Check.ways(q, "xxxy", Check.A), 0);
    }

    private static void noCharacterBehindTheLast() {
        SpanParser p = Check.of("A:yB", "B:y", "B:yB");
        p.follow(Check.A, 'y', false);
        p.follow(Check.B, 'y', false);
        Check.due("each span ends with the input", Check.ways(p, "yyyy", Check.A), 1);
        Check.due("of an input that was longer before", Check.ways(p, "yy", Check.A), 1);
    }

    private static void followIsOfEverySpanBelow() {
        SpanParser p = Check.of("A:B!", "B:C", "C:x");
        for (int n = Check.B; n <= Check.C; n++) {
            p.follow(n, '!', false);
            Check.due("not before", Check.ways(p, "x!", Check.A), 0);
            p.follow(n, '!', true);
            Check.due("again", Check.ways(p, "x!", Check.A), 1);
        }
        p.follow(Check.A, '!', false);
        Check.due("of the nonterminal above", Check.ways(p, "x!", Check.A), 1);
    }
}
