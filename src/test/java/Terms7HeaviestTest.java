/** Terms, "WEIGHT" and "HEAVIEST": the order of products, and which of equal ones is taken. */
public final class Terms7HeaviestTest {
    public static void main(String[] args) {
        theRuleTimesTheFirstTimesTheSecond();
        fourNonterminalsInOrder();
        charactersWeighNothing();
        firstOfTheGreatestRules();
        laterButHeavierRule();
        heaviestAllowedUnderABar();
        heaviestAllowedUnderALeaningRule();
        heaviestThatIsGood();
        shortestFirstSymbol();
        shortestSecondSymbol();
        shortestThirdSymbol();
        theGreatestDivisionWhereverItIs();
        oneStepOfADouble();
        Check.end();
    }

    private static SpanParser weighted(Object... textsAndWeights) {
        SpanParser p = new SpanParser();
        for (int i = 0; i < textsAndWeights.length; i += 2) {
            Check.rule(p, (String) textsAndWeights[i], (Double) textsAndWeights[i + 1]);
        }
        return p;
    }

    private static void theRuleTimesTheFirstTimesTheSecond() {
        boolean fromTheRight = true;
        boolean theRuleLast = true;
        double[] some = {0.3, 0.7, 1.1, 1.3, 1.7, 2.3};
        for (double w : some) {
            for (double x : some) {
                for (double y : some) {
                    SpanParser p = weighted("A:BC", w, "B:b", x, "C:c", y);
                    Check.parse(p, "bc", Check.A);
                    Check.dueWeight("of three", p.weight(), w * x * y);
                    fromTheRight &= w * x * y == w * (x * y);
                    theRuleLast &= w * x * y == x * y * w;
                }
            }
        }
        Check.dueTrue("other orders answer otherwise", !fromTheRight && !theRuleLast);
    }

    private static void fourNonterminalsInOrder() {
        double[] w = {1.1, 0.7, 1.3, 0.3, 1.7};
        SpanParser p = weighted("A:BCDE", w[0], "B:b", w[1], "C:c", w[2], "D:d", w[3], "E:e", w[4]);
        Check.parse(p, "bcde", Check.A);
        Check.dueWeight("of five", p.weight(), w[0] * w[1] * w[2] * w[3] * w[4]);
        SpanParser q = weighted("A:BC", w[0], "B:bD", w[1], "C:cE", w[2], "D:d", w[3], "E:e", w[4]);
        Check.parse(q, "bdce", Check.A);
        Check.dueWeight("each below for itself first", q.weight(), w[0] * (w[1] * w[3]) * (w[2] * w[4]));
    }

    private static void charactersWeighNothing() {
        SpanParser p = weighted("A:x#@!", 3.0, "B:xCy", 3.0, "C:z", 5.0);
        Check.parse(p, "x1a!", Check.A);
        Check.dueWeight("characters alone", p.weight(), 3.0);
        Check.parse(p, "xzy", Check.B);
        Check.dueWeight("a nonterminal between", p.weight(), 15.0);
    }

    private static void firstOfTheGreatestRules() {
        SpanParser p = weighted("A:x", 1.0, "A:x", 2.0, "A:x", 2.0, "A:B", 1.0, "B:x", 2.0, "C:A", 1.0);
        Check.parse(p, "x", Check.A);
        Check.dueTree("at the top", p, "1[0,1 0]");
        Check.parse(p, "x", Check.C);
        Check.dueTree("below", p, "5[0,1 1]1[0,1 0]");
        SpanParser q = weighted("A:B", 1.0, "B:x", 2.0, "A:x", 2.0);
        Check.parse(q, "x", Check.A);
        Check.dueTree("the deeper one came first", q, "0[0,1 1]1[0,1 0]");
    }

    private static void laterButHeavierRule() {
        SpanParser p = weighted("A:x", 2.0, "A:x", Math.nextUp(2.0), "A:x", 2.0);
        Check.parse(p, "x", Check.A);
        Check.dueTree("by the least step", p, "1[0,1 0]");
        Check.dueWeight("its weight", p.weight(), Math.nextUp(2.0));
        SpanParser q = weighted("A:x", 2.0, "A:x", Math.nextDown(2.0));
        Check.parse(q, "x", Check.A);
        Check.dueTree("lighter by the least step", q, "0[0,1 0]");
    }

    private static void heaviestAllowedUnderABar() {
        SpanParser p = weighted("A:BB", 1.0, "B:x", 8.0, "B:x", 2.0, "B:x", 4.0, "C:BB", 1.0);
        p.bar(0, 1, true);
        Check.parse(p, "xx", Check.A);
        Check.dueTree("the second heaviest", p, "0[0,2 2]3[0,1 0]3[1,2 0]");
        Check.dueWeight("its weight", p.weight(), 16.0);
        Check.parse(p, "xx", Check.C);
        Check.dueTree("under another rule", p, "4[0,2 2]1[0,1 0]1[1,2 0]");
    }

    private static void heaviestAllowedUnderALeaningRule() {
        SpanParser p = weighted("A:AA", 8.0, "A:x", 1.0, "A:xx", 1.0);
        p.mark(0, 2);
        Check.parse(p, "xxx", Check.A);
        Check.dueTree("leaning left", p, "0[0,3 4]0[0,2 2]1[0,1 0]1[1,2 0]1[2,3 0]");
        p.mark(0, 3);
        Check.parse(p, "xxx", Check.A);
        Check.dueTree("leaning right", p, "0[0,3 4]1[0,1 0]0[1,3 2]1[1,2 0]1[2,3 0]");
        p.bar(0, 0, true);
        Check.parse(p, "xxx", Check.A);
        Check.dueTree("not at all", p, "0[0,3 2]1[0,1 0]2[1,3 0]");
    }

    private static void heaviestThatIsGood() {
        SpanParser p = weighted("A:BC", 1.0, "B:x", 8.0, "B:xx", 1.0, "C:xxx", 8.0, "C:xx", 1.0, "B:x", 1.0);
        Check.parse(p, "xxxx", Check.A);
        Check.dueTree("free", p, "0[0,4 2]1[0,1 0]3[1,4 0]");
        p.mark(5, 1);
        Check.parse(p, "xxxx", Check.A);
        Check.dueTree("the heavier one is rejected", p, "0[0,4 2]2[0,2 0]4[2,4 0]");
        Check.dueWeight("its weight", p.weight(), 1.0);
    }

    private static void shortestFirstSymbol() {
        SpanParser p = Check.of("A:BB", "B:x", "B:xB");
        Check.parse(p, "xxxx", Check.A);
        Check.dueTree("one and three", p, "0[0,4 4]1[0,1 0]2[1,4 2]2[2,4 1]1[3,4 0]");
    }

    private static void shortestSecondSymbol() {
        SpanParser p = weighted("A:BBB", 1.0, "B:x", 1.0, "B:xx", 1.0, "B:xxx", 1.0);
        Check.parse(p, "xxxxxx", Check.A);
        Check.dueTree("one, two and three", p, "0[0,6 3]1[0,1 0]2[1,3 0]3[3,6 0]");
    }

    private static void shortestThirdSymbol() {
        SpanParser p = weighted("A:BBBB", 1.0, "B:x", 1.0, "B:xx", 1.0, "B:xxx", 1.0);
        Check.parse(p, "xxxxxxx", Check.A);
        Check.dueTree("one, one, two and three", p, "0[0,7 4]1[0,1 0]1[1,2 0]2[2,4 0]3[4,7 0]");
    }

    private static void theGreatestDivisionWhereverItIs() {
        for (int heavy = 1; heavy <= 4; heavy++) {
            SpanParser p = weighted("A:BC", 1.0, "C:x", 1.0, "C:xC", 1.0);
            for (int length = 1; length <= 4; length++) {
                Check.rule(p, "B:" + "x".repeat(length), length == heavy ? 2.0 : 1.0);
            }
            Check.due("ways", Check.parse(p, "xxxxx", Check.A), 4);
            Check.dueWeight("weight", p.weight(), 2.0);
            Check.due("the first symbol's rule", p.node(1, 0), heavy + 2);
            Check.due("its end", p.node(1, 2), heavy);
        }
    }

    /** Equal after the last product, though the longer first span was ahead before it. */
    private static void oneStepOfADouble() {
        double small = 1.9;
        double large = Math.nextUp(small);
        double last = 0.6;
        for (int i = 0; i < 1000 && small * last != large * last; i++) {
            last = Math.nextUp(last);
        }
        Check.dueTrue("such a factor was found", small * last == large * last);
        SpanParser p = weighted("A:BCD", 1.0, "B:x", small, "B:xx", large, "C:x", 1.0, "C:xx", 1.0, "D:x", last);
        Check.parse(p, "xxxx", Check.A);
        Check.dueTree("the shorter first span", p, "0[0,4 3]1[0,1 0]4[1,3 0]5[3,4 0]");
        SpanParser q = weighted("A:BCD", 1.0, "B:x", small, "B:xx", large, "C:x", 1.0, "C:xx", 1.0, "D:x", 1.0);
        Check.parse(q, "xxxx", Check.A);
        Check.dueTree("the heavier one", q, "0[0,4 3]2[0,2 0]3[2,3 0]5[3,4 0]");
    }
}
