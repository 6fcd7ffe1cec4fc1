/** Promise 9: the weight of the heaviest derivation, multiplied in the document's order. */
public final class Promise09WeightTest {
    public static void main(String[] args) {
        products();
        orderOfProducts();
        heaviestNotFirst();
        extremes();
        missing();
        refusedCallsLeaveIt();
        changesThatChangeNothing();
        afterAParseAgain();
        Check.end();
    }

    private static void products() {
        SpanParser p = new SpanParser();
        Check.rule(p, "A:BxB", 2.0);
        Check.rule(p, "B:y", 3.0);
        Check.rule(p, "B:yB", 0.5);
        Check.parse(p, "yyxy", Check.A);
        Check.dueWeight("2 * (0.5 * 3) * 3", p.weight(), 9.0);
        Check.dueWeight("asked again", p.weight(), 9.0);
    }

    private static void orderOfProducts() {
        double a = 1.1;
        double b = 0.7;
        double c = 1.3;
        double d = 0.3;
        SpanParser p = new SpanParser();
        Check.rule(p, "A:BCD", a);
        Check.rule(p, "B:b", b);
        Check.rule(p, "C:cB", c);
        Check.rule(p, "D:d", d);
        Check.parse(p, "bcbd", Check.A);
        Check.dueWeight("from the left, each below first", p.weight(), ((a * b) * (c * b)) * d);
        boolean seen = false;
        double[] some = {0.3, 0.7, 1.1, 1.3, 1.7, 0.9, 2.3};
        for (double w : some) {
            for (double x : some) {
                for (double y : some) {
                    seen |= (w * x) * y != w * (x * y);
                    Check.dueWeight("of three", threeWeights(w, x, y), (w * x) * y);
                }
            }
        }
        Check.dueTrue("the order makes a difference somewhere", seen);
    }

    private static double threeWeights(double w, double x, double y) {
        SpanParser p = new SpanParser();
        Check.rule(p, "A:BC", w);
        Check.rule(p, "B:b", x);
        Check.rule(p, "C:c", y);
        Check.parse(p, "bc", Check.A);
        return p.weight();
    }

    private static void heaviestNotFirst() {
        SpanParser p = new SpanParser();
        Check.rule(p, "A:x", 1.0);
        Check.rule(p, "A:x", 8.0);
        Check.rule(p, "A:x", 4.0);
        Check.rule(p, "A:AA", 0.5);
        Check.rule(p, "A:AAA", 8.0);
        Check.due("ways", Check.parse(p, "xxx", Check.A), 27 * 3);
        Check.dueWeight("weight", p.weight(), 4096.0);
    }

    private static void extremes() {
        double[] weights = {8.0, 0.125};
        for (double weight : weights) {
            SpanParser p = new SpanParser();
            for (String text : new String[] {"A:B", "B:C", "C:D", "D:E", "E:F", "F:AA", "F:x"}) {
                Check.rule(p, text, weight);
            }
            Check.due("ways", Check.parse(p, "x".repeat(14), Check.A), 742900);
            Check.due("nodes", p.count(3), 162);
            double want = 1.0;
            for (int i = 0; i < 162; i++) {
                want *= weight;
            }
            Check.dueWeight("162 nodes of " + weight, p.weight(), want);
        }
    }

    private static void missing() {
        SpanParser p = Check.of("A:a", "B:b");
        Check.dueThrow("no parse", Check.MISSING, p::weight);
        Check.parse(p, "a", Check.A);
        Check.dueWeight("parsed", p.weight(), 1.0);
        Check.dueThrow("missing parse", Check.MISSING, () -> Check.parse(p, "b", Check.A));
        Check.dueThrow("weight of it", Check.MISSING, p::weight);
        Check.Call[] changes = {() -> p.mark(1, 1), () -> p.bar(1, 1, true), () -> p.follow(5, 'q', false),
            () -> p.undo(), () -> Check.rule(p, "C:c"), () -> p.bar(1, 1, false), () -> p.follow(5, 'q', true)};
        for (int i = 0; i < changes.length; i++) {
            Check.parse(p, "a", Check.A);
            Check.dueWeight("before change " + i, p.weight(), 1.0);
            changes[i].run();
            Check.dueThrow("after change " + i, Check.MISSING, p::weight);
        }
    }

    private static void refusedCallsLeaveIt() {
        SpanParser p = new SpanParser();
        Check.rule(p, "A:a", 3.5);
        Check.parse(p, "a", Check.A);
        Check.dueThrow("mark", Check.BAD, () -> p.mark(1, 0));
        Check.dueThrow("mark", Check.BAD, () -> p.mark(0, 4));
        Check.dueThrow("bar", Check.BAD, () -> p.bar(0, 1, true));
        Check.dueThrow("follow", Check.BAD, () -> p.follow(6, 'a', false));
        Check.dueThrow("follow", Check.BAD, () -> p.follow(0, 127, false));
        Check.dueThrow("rule", Check.BAD, () -> Check.rule(p, "A:"));
        Check.dueThrow("rule", Check.ROUND, () -> Check.rule(p, "A:A"));
        Check.dueThrow("parse", Check.BAD, () -> p.parse(Check.A));
        Check.type(p, "xyz");
        Check.dueThrow("rule", Check.BAD, () -> p.rule(8.5));
        Check.dueThrow("parse", Check.BAD, () -> p.parse(6));
        Check.dueThrow("type", Check.BAD, () -> p.type(32));
        Check.dueThrow("node", Check.MISSING, () -> p.node(1, 0));
        Check.dueThrow("many", Check.MISSING, () -> p.many(0, 0, 2));
        Check.dueWeight("none of them changed a rule", p.weight(), 3.5);
        Check.dueTree("nor the tree", p, "0[0,1 0]");
        SpanParser full = new SpanParser();
        while (full.count(0) < 16) {
            Check.rule(full, "A:a", 3.5);
        }
        Check.parse(full, "a", Check.A);
        Check.dueThrow("no room", Check.NO_ROOM, () -> Check.rule(full, "A:a"));
        Check.dueWeight("no rule came", full.weight(), 3.5);
    }

    /** The words tell of the calls, so a call that is taken counts as a change whatever was there. */
    private static void changesThatChangeNothing() {
        SpanParser p = Check.of("A:a");
        Check.Call[] changes = {() -> p.mark(0, 0), () -> p.bar(0, 0, false), () -> p.follow(0, 'a', true)};
        for (Check.Call change : changes) {
            Check.parse(p, "a", Check.A);
            change.run();
            Check.dueThrow("after the call", Check.MISSING, p::weight);
        }
    }

    private static void afterAParseAgain() {
        SpanParser p = new SpanParser();
        Check.rule(p, "A:a", 2.0);
        Check.parse(p, "a", Check.A);
        Check.rule(p, "A:a", 4.0);
        Check.dueThrow("a rule came", Check.MISSING, p::weight);
        Check.parse(p, "a", Check.A);
        Check.dueWeight("parsed again", p.weight(), 4.0);
        p.undo();
        Check.dueThrow("a rule went", Check.MISSING, p::weight);
        Check.parse(p, "a", Check.A);
        Check.dueWeight("parsed again", p.weight(), 2.0);
        Check.dueThrow("missing", Check.MISSING, () -> Check.parse(p, "b", Check.A));
        Check.dueThrow("of a missing parse", Check.MISSING, p::weight);
        Check.parse(p, "a", Check.A);
        Check.dueWeight("parsed again", p.weight(), 2.0);
    }
}
