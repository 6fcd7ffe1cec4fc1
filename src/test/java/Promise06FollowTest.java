/** Promise 6: what may not follow a nonterminal keeps it from the spans before it. */
public final class Promise06FollowTest {
    public static void main(String[] args) {
        longestMatch();
        eachNonterminalOfItsOwn();
        theEndOfTheInput();
        manyDoesNotAskForTheTop();
        rejectingAsksBelowItself();
        everyCharacter();
        wrongNumbers();
        outlivesTheRules();
        forgetsTheParse();
        firstAndLastNonterminal();
        firstAndLastCharacter();
        aRefusedFollowLeavesWhatMay();
        Check.end();
    }

    private static void longestMatch() {
        SpanParser p = Check.of("A:BA", "A:B", "B:@B", "B:@");
        Check.due("free", Check.ways(p, "aaaa", Check.A), 8);
        p.follow(Check.B, 'a', false);
        Check.due("no b before an a: none but the last", Check.ways(p, "aaaa", Check.A), 1);
        Check.dueTree("one word", p, "1[0,4 4]2[0,4 3]2[1,4 2]2[2,4 1]3[3,4 0]");
        p.follow(Check.B, 'a', true);
        Check.due("free again", Check.ways(p, "aaaa", Check.A), 8);
    }

    private static void eachNonterminalOfItsOwn() {
        SpanParser p = Check.of("A:Bx", "A:Cx", "B:b", "C:b");
        Check.due("both", Check.ways(p, "bx", Check.A), 2);
        p.follow(Check.C, 'x', false);
        Check.due("one", Check.ways(p, "bx", Check.A), 1);
        Check.due("and that is B", p.node(0, 0), 0);
        p.follow(Check.B, 'y', false);
        Check.due("another character", Check.ways(p, "bx", Check.A), 1);
        p.follow(Check.B, 'x', false);
        Check.due("none", Check.ways(p, "bx", Check.A), 0);
    }

    private static void theEndOfTheInput() {
        SpanParser p = Check.of("A:B", "B:b");
        for (int c = 33; c <= 126; c++) {
            p.follow(Check.A, c, false);
            p.follow(Check.B, c, false);
        }
        Check.due("behind all there is nothing", Check.ways(p, "b", Check.A), 1);
    }

    private static void manyDoesNotAskForTheTop() {
        SpanParser p = Check.of("A:a", "B:Ab");
        p.follow(Check.A, 'b', false);
        Check.due("parse", Check.ways(p, "ab", Check.B), 0);
        Check.due("the rule has a derivation there", p.many(0, 0, 1), 1);
        Check.due("but none stands above it", p.many(1, 0, 2), 0);
    }

    private static void rejectingAsksBelowItself() {
        SpanParser p = Check.of("A:@", "A:C", "C:i", "B:AA");
        p.mark(1, 1);
        Check.due("rejected", Check.ways(p, "ix", Check.B), 0);
        p.follow(Check.C, 'x', false);
        Check.due("what rejects isn't good there", Check.ways(p, "ix", Check.B), 1);
        Check.due("but it is at the end", Check.ways(p, "xi", Check.B), 0);
    }

    private static void everyCharacter() {
        for (int c = 33; c <= 126; c++) {
            if (c == '#' || c == '@' || c == ':' || c >= 'A' && c <= 'Z') {
                continue;
            }
            SpanParser p = Check.of("A:B" + (char) c, "B:F", "F:b");
            p.follow(Check.F, c, false);
            Check.due("before " + (char) c, Check.ways(p, "b" + (char) c, Check.A), 0);
            p.follow(Check.F, c, true);
            Check.due("before " + (char) c, Check.ways(p, "b" + (char) c, Check.A), 1);
        }
    }

    private static void wrongNumbers() {
        SpanParser p = Check.of("A:a");
        Check.parse(p, "a", Check.A);
        int[][] wrong = {{-1, 50}, {6, 50}, {0, 32}, {0, 127}, {5, 0}, {0, -50}, {Integer.MAX_VALUE, 50},
            {0, Integer.MIN_VALUE}, {0, Integer.MAX_VALUE}, {1, 33 + 65536}};
        for (int[] pair : wrong) {
            Check.dueThrow("not " + pair[0] + " " + pair[1], Check.BAD, () -> p.follow(pair[0], pair[1], false));
            Check.dueThrow("may " + pair[0] + " " + pair[1], Check.BAD, () -> p.follow(pair[0], pair[1], true));
        }
        Check.dueWeight("a bad follow changes nothing", p.weight(), 1.0);
        p.follow(5, 33, false);
        p.follow(0, 126, false);
    }

    private static void outlivesTheRules() {
        SpanParser p = new SpanParser();
        p.follow(Check.A, 'b', false);
        Check.rule(p, "A:a");
        p.undo();
        Check.rule(p, "A:a");
        Check.rule(p, "B:Ab");
        Check.due("follow is of the nonterminal", Check.ways(p, "ab", Check.B), 0);
    }

    private static void forgetsTheParse() {
        SpanParser p = Check.of("A:a");
        Check.parse(p, "a", Check.A);
        p.follow(Check.F, 'z', false);
        Check.dueThrow("weight", Check.MISSING, p::weight);
        Check.due("input", p.count(4), 0);
    }

    private static void firstAndLastNonterminal() {
        for (int n = 0; n < 6; n++) {
            char left = (char) ('A' + n);
            SpanParser p = Check.of(left + ":x", "A:" + left + "!", "B:" + left + "!");
            p.follow(n, '!', false);
            Check.due("may not follow " + left, Check.ways(p, "x!", n == 0 ? Check.B : Check.A), 0);
            for (int other = 0; other < 6; other++) {
                p.follow(other, '!', other != n);
            }
            Check.due("others may not matter", Check.ways(p, "x!", n == 0 ? Check.B : Check.A), 0);
            p.follow(n, '!', true);
            Check.due("may follow " + left + " again", Check.ways(p, "x!", n == 0 ? Check.B : Check.A), 1);
        }
        SpanParser p = new SpanParser();
        Check.dueThrow("before A", Check.BAD, () -> p.follow(-1, '!', false));
        Check.dueThrow("behind F", Check.BAD, () -> p.follow(6, '!', false));
    }

    /** One character forbidden at a time: the others, its neighbours too, may follow. */
    private static void firstAndLastCharacter() {
        for (int c : new int[] {33, 34, 125, 126}) {
            SpanParser p = Check.of("A:B!", "A:B\"", "A:B}", "A:B~", "B:x");
            p.follow(Check.B, c, false);
            for (int behind : new int[] {33, 34, 125, 126}) {
                Check.due("x before " + behind, Check.ways(p, "x" + (char) behind, Check.A), behind == c ? 0 : 1);
            }
        }
        SpanParser p = new SpanParser();
        Check.dueThrow("below the first", Check.BAD, () -> p.follow(Check.B, 32, false));
        Check.dueThrow("above the last", Check.BAD, () -> p.follow(Check.A, 127, false));
        p.follow(Check.A, 33, false);
        p.follow(Check.F, 126, false);
    }

    /** A character out of range must not count as one of the nonterminal before or behind. */
    private static void aRefusedFollowLeavesWhatMay() {
        SpanParser p = Check.of("D:A!", "D:B!", "D:C!", "E:A~", "E:B~", "E:C~", "A:x", "B:x", "C:x");
        p.follow(Check.B, '!', false);
        p.follow(Check.B, '~', false);
        int[][] wrong = {{Check.B, 32}, {Check.B, 127}, {Check.A, 127}, {Check.C, 32}, {-1, 33}, {6, 126}, {Check.B, 0},
            {Check.B, 256 + 33}};
        for (int[] pair : wrong) {
            Check.dueThrow("not " + pair[0] + " " + pair[1], Check.BAD, () -> p.follow(pair[0], pair[1], false));
            Check.dueThrow("may " + pair[0] + " " + pair[1], Check.BAD, () -> p.follow(pair[0], pair[1], true));
        }
        Check.due("before !", Check.ways(p, "x!", Check.D), 2);
        Check.due("not B", p.many(1, 0, 2), 0);
        Check.due("before ~", Check.ways(p, "x~", Check.E), 2);
        Check.due("not B", p.many(4, 0, 2), 0);
    }
}
