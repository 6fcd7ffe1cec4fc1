/** Promise 7: undo takes the latest rule away with its bars. */
public final class Promise07UndoTest {
    public static void main(String[] args) {
        latestFirst();
        barsGo();
        otherBarsStay();
        nothingThere();
        forgetsTheParse();
        leavesTextAndPlace();
        fromSixteenToNone();
        everyBarOfIt();
        theWeightGoes();
        whatMayFollowStays();
        noneLeavesAll();
        Check.end();
    }

    private static void latestFirst() {
        SpanParser p = Check.of("A:a", "A:@");
        Check.due("two", Check.ways(p, "a", Check.A), 2);
        p.undo();
        Check.due("rules", p.count(0), 1);
        Check.due("one", Check.ways(p, "a", Check.A), 1);
        Check.due("the first is left", Check.ways(p, "b", Check.A), 0);
        Check.dueThrow("its number is free", Check.BAD, () -> p.mark(1, 0));
        Check.due("and given again", Check.rule(p, "A:b"), 1);
        Check.due("b", Check.ways(p, "b", Check.A), 1);
    }

    private static void barsGo() {
        SpanParser p = Check.of("A:(B)", "B:x");
        p.bar(0, 1, true);
        p.undo();
        Check.rule(p, "B:x");
        Check.due("the bar of it under another", Check.ways(p, "(x)", Check.A), 1);
        SpanParser q = Check.of("B:x", "A:(B)");
        q.bar(1, 0, true);
        q.undo();
        Check.rule(q, "A:(B)");
        Check.due("the bar of another under it", Check.ways(q, "(x)", Check.A), 1);
        SpanParser own = Check.of("A:#", "A:A+A");
        own.bar(1, 1, true);
        own.undo();
        Check.rule(own, "A:A+A");
        Check.due("the bar under itself", Check.ways(own, "1+2+3", Check.A), 2);
    }

    private static void otherBarsStay() {
        SpanParser p = Check.of("A:(B)", "B:x", "B:x");
        p.bar(0, 1, true);
        p.bar(0, 2, true);
        p.mark(1, 2);
        p.undo();
        Check.due("the other bar", Check.ways(p, "(x)", Check.A), 0);
        Check.rule(p, "B:x");
        Check.due("the new rule", Check.ways(p, "(x)", Check.A), 1);
        Check.due("stands under", p.node(1, 0), 2);
    }

    private static void nothingThere() {
        SpanParser p = Check.of("A:a");
        p.undo();
        Check.dueThrow("none", Check.MISSING, p::undo);
        Check.dueThrow("none still", Check.MISSING, p::undo);
        Check.due("rules", p.count(0), 0);
        Check.due("first again", Check.rule(p, "A:a"), 0);
    }

    private static void forgetsTheParse() {
        SpanParser p = Check.of("A:a", "B:b");
        Check.parse(p, "a", Check.A);
        p.undo();
        Check.dueThrow("weight", Check.MISSING, p::weight);
        Check.dueThrow("many", Check.MISSING, () -> p.many(0, 0, 1));
        Check.due("input", p.count(4), 0);
        SpanParser empty = new SpanParser();
        Check.due("no rules", Check.ways(empty, "abc", Check.A), 0);
        Check.dueThrow("undo", Check.MISSING, empty::undo);
        Check.due("no rule went: the input is there", empty.count(4), 3);
    }

    private static void leavesTextAndPlace() {
        SpanParser p = Check.of("A:a");
        Check.dueThrow("unreadable", Check.BAD, () -> Check.rule(p, "A;"));
        Check.type(p, "xyz");
        p.undo();
        Check.due("text", p.count(2), 3);
        Check.due("place", p.count(1), 1);
    }

    private static void fromSixteenToNone() {
        SpanParser p = new SpanParser();
        for (int r = 0; r < 16; r++) {
            Check.rule(p, "A:@");
        }
        for (int left = 15; left >= 0; left--) {
            p.undo();
            Check.due("rules", p.count(0), left);
            Check.due("ways", Check.ways(p, "x", Check.A), left);
        }
        Check.dueThrow("none", Check.MISSING, p::undo);
        Check.due("rules", p.count(0), 0);
        for (int r = 0; r < 16; r++) {
            Check.due("numbers again", Check.rule(p, "A:@"), r);
        }
        Check.dueThrow("no more than before", Check.NO_ROOM, () -> Check.rule(p, "A:@"));
    }

    /** The latest of sixteen rules, barred under all and all barred under it, comes back without bars. */
    private static void everyBarOfIt() {
        SpanParser p = new SpanParser();
        for (int r = 0; r < 15; r++) {
            Check.rule(p, r < 7 ? "A:(A)" : "A:x");
        }
        Check.rule(p, "A:(A)");
        for (int r = 0; r < 16; r++) {
            p.bar(r, 15, true);
            p.bar(15, r, true);
        }
        Check.due("barred", Check.ways(p, "((x))", Check.A), 7 * 7 * 8);
        p.undo();
        Check.due("without it", Check.ways(p, "((x))", Check.A), 7 * 7 * 8);
        Check.rule(p, "A:(A)");
        Check.due("without its bars", Check.ways(p, "((x))", Check.A), 8 * 8 * 8);
    }

    private static void theWeightGoes() {
        SpanParser p = new SpanParser();
        Check.rule(p, "A:x", 2.0);
        Check.rule(p, "A:x", 8.0);
        p.undo();
        Check.parse(p, "x", Check.A);
        Check.dueWeight("of the other", p.weight(), 2.0);
        Check.rule(p, "A:x", 4.0);
        Check.parse(p, "x", Check.A);
        Check.dueWeight("of the new one", p.weight(), 4.0);
    }

    private static void whatMayFollowStays() {
        SpanParser p = Check.of("A:Bx", "B:b");
        p.follow(Check.B, 'x', false);
        p.undo();
        p.undo();
        Check.rule(p, "A:Bx");
        Check.rule(p, "B:b");
        Check.due("no bar of a rule", Check.ways(p, "bx", Check.A), 0);
    }

    private static void noneLeavesAll() {
        SpanParser p = new SpanParser();
        Check.dueThrow("unreadable", Check.BAD, () -> Check.rule(p, "A:"));
        Check.due("missing", Check.ways(p, "abc", Check.A), 0);
        Check.type(p, "A:a");
        Check.dueThrow("none", Check.MISSING, p::undo);
        Check.due("rules", p.count(0), 0);
        Check.due("place", p.count(1), 2);
        Check.due("text", p.count(2), 3);
        Check.due("input", p.count(4), 3);
        Check.due("the text is read", p.rule(1.0), 0);
    }
}
