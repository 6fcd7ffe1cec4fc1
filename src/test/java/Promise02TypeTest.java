/** Promise 2: type adds the bytes that are not 0, highest first, or none at all. */
public final class Promise02TypeTest {
    public static void main(String[] args) {
        order();
        zeros();
        wrongBytes();
        room();
        doesNotTouchTheParse();
        Check.end();
    }

    private static void order() {
        SpanParser p = new SpanParser();
        Check.due("highest byte first", p.type(Check.eight("A:ab")), 4);
        Check.due("rule of it", p.rule(1.0), 0);
        Check.due("ab", Check.ways(p, "ab", Check.A), 1);
        Check.due("ba", Check.ways(p, "ba", Check.A), 0);
        Check.due("all eight bytes", p.type(Check.eight("abcdefgh")), 8);
    }

    private static void zeros() {
        SpanParser p = new SpanParser();
        Check.due("nothing", p.type(0L), 0);
        Check.due("zeros between", p.type(0x41003A0000610000L), 3);
        Check.due("rule of it", p.rule(1.0), 0);
        Check.due("first byte alone", p.type(0x6100000000000000L), 1);
        Check.due("parsed", p.parse(Check.A), 1);
    }

    private static void wrongBytes() {
        SpanParser p = new SpanParser();
        Check.due("lowest", p.type(33L), 1);
        Check.due("highest", p.type(126L), 2);
        long[] wrong = {32L, 127L, 1L, 128L, 255L, -1L, Long.MIN_VALUE, 0x6120L, 0x2061L, 0x610061006100617FL};
        for (long eight : wrong) {
            Check.dueThrow("type(" + eight + ")", Check.BAD, () -> p.type(eight));
            Check.due("text after " + eight, p.count(2), 2);
        }
    }

    private static void room() {
        SpanParser p = new SpanParser();
        Check.type(p, "aaaaaaaa");
        Check.dueThrow("sixteen", Check.NO_ROOM, () -> p.type(Check.eight("bbbbbbbb")));
        Check.dueThrow("fifteen", Check.NO_ROOM, () -> p.type(Check.eight("bbbbbbb")));
        Check.dueThrow("too many and a wrong one", Check.BAD, () -> p.type(Check.eight("bbbbbbb ")));
        Check.due("none was added", p.count(2), 8);
        Check.due("fourteen", p.type(Check.eight("bbbbbb")), 14);
        Check.due("nothing more", p.type(0L), 14);
        Check.dueThrow("one more", Check.NO_ROOM, () -> p.type('c'));
        Check.dueThrow("one wrong", Check.BAD, () -> p.type(' '));
    }

    private static void doesNotTouchTheParse() {
        SpanParser p = Check.of("A:a");
        Check.parse(p, "a", Check.A);
        Check.type(p, "abc");
        Check.dueThrow("a wrong one", Check.BAD, () -> p.type(1L));
        Check.dueWeight("weight", p.weight(), 1.0);
        Check.due("input", p.count(4), 1);
        Check.due("text", p.count(2), 3);
    }
}
