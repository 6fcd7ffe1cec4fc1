/** "At most 512 calls": the 512th answers as the first would. */
public final class LastCallTest {
    private static final int CALLS = 512;

    public static void main(String[] args) {
        manyQuestions();
        manyParses();
        manyRules();
        Check.end();
    }

    private static void manyQuestions() {
        SpanParser p = Check.of("A:AA", "A:x");
        Check.parse(p, "xxxxx", Check.A);
        for (int call = 7; call < CALLS; call++) {
            Check.due("weight at call " + call, (long) p.weight(), 1);
        }
        Check.due("the last call", p.many(0, 0, 5), 14);
    }

    private static void manyParses() {
        SpanParser p = Check.of("A:AA", "A:x");
        int calls = 4;
        while (calls + 3 <= CALLS) {
            Check.due("parse at call " + calls, Check.parse(p, "xxxxxxxxxxxxxx", Check.A), 742900);
            calls += 3;
        }
        Check.due("one of the last calls", p.node(26, 1), 13);
    }

    private static void manyRules() {
        SpanParser p = new SpanParser();
        for (int calls = 3; calls < CALLS; calls += 3) {
            Check.due("rule at call " + calls, Check.rule(p, "A:x"), 0);
            p.undo();
        }
        Check.due("one of the last calls", p.count(0), 0);
    }
}
