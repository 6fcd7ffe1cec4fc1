/** Promise 5: a barred rule may not stand right under another. */
public final class Promise05BarTest {
    public static void main(String[] args) {
        precedence();
        everySymbolOfTheRule();
        rightUnderAlone();
        underItself();
        changesTheHeaviest();
        wrongNumbers();
        forgetsTheParse();
        firstAndLastRule();
        aRefusedBarLeavesTheBars();
        Check.end();
    }

    private static void precedence() {
        SpanParser p = Check.of("A:A+A", "A:A*A", "A:#");
        Check.due("free", Check.ways(p, "1+2*3", Check.A), 2);
        p.bar(1, 0, true);
        Check.due("barred", Check.ways(p, "1+2*3", Check.A), 1);
        Check.dueTree("barred", p, "0[0,5 4]2[0,1 0]1[2,5 2]2[2,3 0]2[4,5 0]");
        Check.due("barred the other way round", Check.ways(p, "1*2+3", Check.A), 1);
        p.bar(1, 0, true);
        p.bar(1, 0, false);
        Check.due("twice barred, once freed", Check.ways(p, "1+2*3", Check.A), 2);
        p.bar(1, 0, false);
        Check.due("freed twice", Check.ways(p, "1+2*3", Check.A), 2);
    }

    private static void everySymbolOfTheRule() {
        SpanParser p = Check.of("A:BBBB", "B:x", "B:y");
        p.bar(0, 2, true);
        Check.due("nowhere", Check.ways(p, "xxxx", Check.A), 1);
        for (String input : new String[] {"yxxx", "xyxx", "xxyx", "xxxy"}) {
            Check.due(input, Check.ways(p, input, Check.A), 0);
        }
    }

    private static void rightUnderAlone() {
        SpanParser p = Check.of("A:(B)", "B:C", "C:x", "B:x");
        p.bar(0, 2, true);
        Check.due("below a chain it may stand", Check.ways(p, "(x)", Check.A), 2);
        p.bar(0, 1, true);
        Check.due("the chain barred", Check.ways(p, "(x)", Check.A), 1);
        Check.due("at the top nothing is barred", Check.ways(p, "x", Check.B), 2);
        p.bar(1, 0, true);
        Check.due("bars have a direction", Check.ways(p, "(x)", Check.A), 1);
    }

    private static void underItself() {
        SpanParser p = Check.of("A:A+A", "A:#");
        p.bar(0, 0, true);
        Check.due("one", Check.ways(p, "1+2", Check.A), 1);
        Check.due("two", Check.ways(p, "1+2+3", Check.A), 0);
    }

    private static void changesTheHeaviest() {
        SpanParser p = new SpanParser();
        Check.rule(p, "A:BB", 1.0);
        Check.rule(p, "B:x", 2.0);
        Check.rule(p, "B:x", 8.0);
        p.bar(0, 2, true);
        Check.due("ways", Check.ways(p, "xx", Check.A), 1);
        Check.dueWeight("weight", p.weight(), 4.0);
        Check.dueTree("tree", p, "0[0,2 2]1[0,1 0]1[1,2 0]");
    }

    private static void wrongNumbers() {
        SpanParser p = Check.of("A:a", "A:b");
        Check.parse(p, "a", Check.A);
        int[][] wrong = {{-1, 0}, {0, -1}, {2, 0}, {0, 2}, {16, 16}, {Integer.MIN_VALUE, 0}, {0, Integer.MAX_VALUE}};
        for (int[] pair : wrong) {
            Check.dueThrow("bar " + pair[0] + " " + pair[1], Check.BAD, () -> p.bar(pair[0], pair[1], true));
            Check.dueThrow("free " + pair[0] + " " + pair[1], Check.BAD, () -> p.bar(pair[0], pair[1], false));
        }
        Check.dueWeight("a bad bar changes nothing", p.weight(), 1.0);
    }

    private static void forgetsTheParse() {
        SpanParser p = Check.of("A:a", "B:b");
        Check.parse(p, "a", Check.A);
        p.bar(0, 1, true);
        Check.dueThrow("weight", Check.MISSING, p::weight);
        Check.due("input", p.count(4), 0);
    }

    /** Sixteen rules, each of them barred under each other in turn. */
    private static void firstAndLastRule() {
        SpanParser p = Check.of("A:(A)");
        for (int r = 1; r < 16; r++) {
            Check.rule(p, r % 2 == 0 ? "A:(A)" : "A:x");
        }
        Check.due("x by eight, with eight round it", Check.ways(p, "(x)", Check.A), 64);
        for (int r = 0; r < 16; r += 2) {
            p.bar(r, 15, true);
            Check.due("the last barred under " + r, Check.ways(p, "(x)", Check.A), 63);
            Check.due("of the rule", p.many(r, 0, 3), 7);
            p.bar(r, 15, false);
        }
        p.bar(15, 0, true);
        p.bar(15, 15, true);
        Check.due("a rule of a character has none below", Check.ways(p, "(x)", Check.A), 64);
        p.bar(0, 0, true);
        Check.due("the first under itself", Check.ways(p, "((x))", Check.A), 63 * 8);
        for (boolean barred : new boolean[] {true, false}) {
            Check.dueThrow("under one before the first", Check.BAD, () -> p.bar(-1, 0, barred));
            Check.dueThrow("under one behind the last", Check.BAD, () -> p.bar(16, 0, barred));
            Check.dueThrow("one before the first", Check.BAD, () -> p.bar(0, -1, barred));
            Check.dueThrow("one behind the last", Check.BAD, () -> p.bar(0, 16, barred));
            Check.dueThrow("a number that wraps round", Check.BAD, () -> p.bar(0, 32, barred));
        }
        Check.due("as before", Check.ways(p, "((x))", Check.A), 63 * 8);
    }

    private static void aRefusedBarLeavesTheBars() {
        SpanParser p = Check.of("A:(B)", "B:x", "B:x");
        p.bar(0, 1, true);
        int[][] wrong = {{0, 3}, {3, 1}, {-1, 1}, {0, -1}, {0, 33}, {16, 1}};
        for (int[] pair : wrong) {
            Check.dueThrow("free " + pair[0] + " " + pair[1], Check.BAD, () -> p.bar(pair[0], pair[1], false));
            Check.dueThrow("bar " + pair[0] + " " + pair[1], Check.BAD, () -> p.bar(pair[0], pair[1], true));
        }
        Check.due("one barred, one not", Check.ways(p, "(x)", Check.A), 1);
        Check.due("which", p.node(1, 0), 2);
        Check.due("and a new rule isn't barred", Check.rule(p, "B:x"), 3);
        Check.due("two", Check.ways(p, "(x)", Check.A), 2);
    }
}
