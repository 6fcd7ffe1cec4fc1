/** Promise 1: a new object has no rules, no text, no input and no tree. */
public final class Promise01NewObjectTest {
    public static void main(String[] args) {
        SpanParser p = new SpanParser();
        Check.due("rules", p.count(0), 0);
        Check.due("place", p.count(1), -1);
        Check.due("text", p.count(2), 0);
        Check.due("nodes", p.count(3), 0);
        Check.due("input", p.count(4), 0);
        Check.dueThrow("undo", Check.MISSING, p::undo);
        Check.dueThrow("weight", Check.MISSING, p::weight);
        Check.dueThrow("node", Check.MISSING, () -> p.node(0, 0));
        Check.dueThrow("many", Check.BAD, () -> p.many(0, 0, 1));
        Check.dueThrow("mark", Check.BAD, () -> p.mark(0, 0));
        Check.dueThrow("bar", Check.BAD, () -> p.bar(0, 0, true));
        Check.dueThrow("parse of no text", Check.BAD, () -> p.parse(0));
        Check.dueThrow("parse without rules", Check.MISSING, () -> Check.parse(p, "a", Check.A));
        twoObjectsAreApart();
        nothingIsMarkedBarredOrKeptFromFollowing();
        Check.end();
    }

    private static void twoObjectsAreApart() {
        SpanParser one = Check.of("A:a");
        one.follow(Check.A, 'b', false);
        Check.type(one, "xyz");
        SpanParser other = new SpanParser();
        Check.due("rules of another", other.count(0), 0);
        Check.due("text of another", other.count(2), 0);
        Check.rule(other, "A:a");
        Check.rule(other, "B:Ab");
        Check.due("follow of another", Check.ways(other, "ab", Check.B), 1);
    }

    private static void nothingIsMarkedBarredOrKeptFromFollowing() {
        for (char c = 33; c <= 126; c++) {
            SpanParser p = Check.of("A:BB", "B:x", "B:y", "B:#", "B:@", "B:C", "C:!");
            boolean known = c >= '0' && c <= '9' || c >= 'a' && c <= 'z' || c == '!';
            int ways = c == 'x' || c == 'y' ? 2 : known ? 1 : 0;
            Check.due("x before " + c, Check.ways(p, "x" + c, Check.A), 2 * ways);
        }
    }
}
