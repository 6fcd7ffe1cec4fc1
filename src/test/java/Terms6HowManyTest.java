/** Terms, "HOW MANY": numbers just below, at and above the limit of 1000000000, and where others wrap round. */
public final class Terms6HowManyTest {
    private static final int LIMIT = 1000000000;

    public static void main(String[] args) {
        divisionsAreAddedUp();
        symbolsAreMultiplied();
        justBelowAtAndAboveTheLimit();
        aProductAtTheLimit();
        aProductThatWouldWrapToNothing();
        productsOfSeveralLimits();
        sumsOfSeveralLimits();
        divisionsOfSeveralLimits();
        nothingTimesTheLimit();
        whatWasCutDownStaysSo();
        Check.end();
    }

    private static void divisionsAreAddedUp() {
        SpanParser p = Check.of("A:BC", "B:x", "B:xB", "C:x", "C:xC");
        for (int length = 2; length <= 14; length++) {
            Check.due("length " + length, Check.ways(p, "x".repeat(length), Check.A), length - 1);
        }
    }

    private static void symbolsAreMultiplied() {
        SpanParser p = Check.of("A:BCD", "B:x", "B:x", "C:x", "C:x", "C:x", "D:x", "D:x", "D:x", "D:x", "D:x");
        Check.due("2 * 3 * 5", Check.ways(p, "xxx", Check.A), 30);
    }

    /** B has 1, 11, 111 and so on over x, xx, xxx; before it stands an A with 9 ways over y, 10 over x. */
    private static SpanParser onesBehindNine() {
        return Check.of("A:E", "A:E", "A:E", "E:@", "E:@", "E:@", "A:x", "B:AB", "B:C", "C:xC", "C:x", "D:AB");
    }

    private static void justBelowAtAndAboveTheLimit() {
        SpanParser p = onesBehindNine();
        String nine = "yxxxxxxxxx";
        Check.due("ones", Check.ways(p, "xxxxxxxxx", Check.B), 111111111);
        Check.due("one below", Check.ways(p, nine, Check.D), LIMIT - 1);
        Check.due("of the rule", p.many(11, 0, 10), LIMIT - 1);
        Check.rule(p, "D:yC");
        Check.due("just the limit", Check.ways(p, nine, Check.D), LIMIT);
        Check.rule(p, "D:yC");
        Check.due("one above", Check.ways(p, nine, Check.D), LIMIT);
        Check.due("each rule has its own number", p.many(11, 0, 10), LIMIT - 1);
        Check.due("each rule has its own number", p.many(13, 0, 10), 1);
    }

    private static void aProductAtTheLimit() {
        SpanParser p = Check.of("A:E", "A:E", "A:E", "E:@", "E:@", "E:@", "A:x", "B:AAA", "C:BBB");
        Check.due("9 * 10 to the 8th", Check.ways(p, "xxxxxxxxy", Check.C), 900000000);
        Check.due("10 to the 9th", Check.ways(p, "xxxxxxxxx", Check.C), LIMIT);
        Check.rule(p, "A:x");
        Check.due("11 to the 8th times 9", Check.ways(p, "xxxxxxxxy", Check.C), LIMIT);
        Check.due("of the rule", p.many(8, 0, 9), LIMIT);
    }

    /** 2 to the 16th twice: its lower 32 bits are all 0. */
    private static void aProductThatWouldWrapToNothing() {
        SpanParser p = Check.of("A:E", "A:E", "E:x", "E:x", "E:x", "E:x", "A:y", "A:y", "B:AAA", "C:BB", "D:CC");
        Check.due("2 to the 16th", Check.ways(p, "xxxxxy", Check.C), 65536);
        Check.due("2 to the 32nd", Check.ways(p, "xxxxxyxxxxxy", Check.D), LIMIT);
        Check.due("2 to the 30th", Check.ways(p, "xxxxxyxxxxyy", Check.D), LIMIT);
        Check.due("2 to the 28th", Check.ways(p, "xxxxyyxxxxyy", Check.D), 268435456);
    }

    /** Every x has 243 ways, and four of them more than the limit. */
    private static SpanParser limitInFour() {
        return Check.of("F:x", "F:x", "F:x", "E:F", "E:F", "E:F", "D:E", "D:E", "D:E", "C:D", "C:D", "C:D",
                "B:C", "B:C", "B:C", "B:BBBB");
    }

    private static void productsOfSeveralLimits() {
        SpanParser p = limitInFour();
        Check.due("one", Check.ways(p, "x", Check.B), 243);
        Check.due("two", Check.ways(p, "xx", Check.B), 0);
        Check.due("four", Check.ways(p, "xxxx", Check.B), LIMIT);
        Check.due("seven", Check.ways(p, "xxxxxxx", Check.B), LIMIT);
        Check.due("ten", Check.ways(p, "xxxxxxxxxx", Check.B), LIMIT);
        Check.due("thirteen", Check.ways(p, "xxxxxxxxxxxxx", Check.B), LIMIT);
        Check.due("of the rule", p.many(15, 0, 13), LIMIT);
        Check.due("and over a part", p.many(15, 3, 7), LIMIT);
    }

    private static void sumsOfSeveralLimits() {
        SpanParser p = Check.of("A:AA", "A:x", "A:x", "A:x", "A:x");
        String input = "xxxxxxxxxxxxxx";
        for (int rules = 1; rules <= 10; rules++) {
            Check.rule(p, "B:A");
            Check.due(rules + " times the limit", Check.ways(p, input, Check.B), LIMIT);
        }
        Check.rule(p, "C:B");
        Check.due("below a chain", Check.ways(p, input, Check.C), LIMIT);
    }

    private static void divisionsOfSeveralLimits() {
        SpanParser p = Check.of("A:AA", "A:x", "A:x", "A:x", "A:x");
        Check.due("eight", Check.ways(p, "xxxxxxxx", Check.A), 429 * 65536);
        Check.due("ten", Check.ways(p, "xxxxxxxxxx", Check.A), LIMIT);
        for (int length = 11; length <= 14; length++) {
            Check.due("length " + length, Check.ways(p, "x".repeat(length), Check.A), LIMIT);
            Check.due("of the rule", p.many(0, 0, length), LIMIT);
        }
    }

    private static void nothingTimesTheLimit() {
        SpanParser p = Check.of("A:AA", "A:x", "A:x", "A:x", "A:x", "B:Ay", "C:yA");
        Check.due("nothing behind", Check.ways(p, "xxxxxxxxxxxxxx", Check.B), 0);
        Check.due("nothing before", Check.ways(p, "xxxxxxxxxxxxxx", Check.C), 0);
        Check.due("of the rule", p.many(5, 0, 14), 0);
        Check.due("something behind", Check.ways(p, "xxxxxxxxxxxxxy", Check.B), LIMIT);
        Check.due("something before", Check.ways(p, "yxxxxxxxxxxxxx", Check.C), LIMIT);
    }

    /** What is cut down hides how many were barred: the sum of the rest is what counts. */
    private static void whatWasCutDownStaysSo() {
        SpanParser p = Check.of("A:AA", "A:x", "A:x", "A:x", "A:x", "B:A");
        p.bar(5, 0, true);
        Check.due("the rule at the limit is barred", Check.ways(p, "xxxxxxxxxxxxxx", Check.B), 0);
        Check.due("one x by the others", Check.ways(p, "x", Check.B), 4);
        p.bar(5, 0, false);
        p.bar(5, 1, true);
        Check.due("another is barred", Check.ways(p, "xxxxxxxxxxxxxx", Check.B), LIMIT);
        Check.due("one x by the others", Check.ways(p, "x", Check.B), 3);
    }
}
