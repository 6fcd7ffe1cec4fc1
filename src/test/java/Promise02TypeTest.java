/** Promise 2: type adds the bytes that are not 0, highest first, or none at all. */
public final class Promise02TypeTest {
    public static void main(String[] args) {
        order();
        zeros();
        wrongBytes();
        room();
        doesNotTouchTheParse();
        everyByteInEveryPlace();
        everyLengthAndEveryAddition();
        refusedLeavesTheTextAsItWas();
        Check.end();
    }

    private static void order() {
        SpanParser p = new SpanParser();
        Check.due("highest byte first", p.type(Check.eight("A:ab")), 4);
        Check.due("rule of it", p.rule(1.0), 0);
        Check.due("ab", Check.ways(p, "ab", Check.A), 1);
        Check.due("ba", Check.ways(p, "ba", Check.A), 0);
        Check.due("all eight bytes", p.type(Check.eight("abcdefgh")), 8);
    }

    private static void zeros() {
        SpanParser p = new SpanParser();
        Check.due("nothing", p.type(0L), 0);
        Check.due("zeros between", p.type(0x41003A0000610000L), 3);
        Check.due("rule of it", p.rule(1.0), 0);
        Check.due("first byte alone", p.type(0x6100000000000000L), 1);
        Check.due("parsed", p.parse(Check.A), 1);
    }

    private static void wrongBytes() {
        SpanParser p = new SpanParser();
        Check.due("lowest", p.type(33L), 1);
        Check.due("highest", p.type(126L), 2);
        long[] wrong = {32L, 127L, 1L, 128L, 255L, -1L, Long.MIN_VALUE, 0x6120L, 0x2061L, 0x610061006100617FL};
        for (long eight : wrong) {
            Check.dueThrow("type(" + eight + ")", Check.BAD, () -> p.type(eight));
            Check.due("text after " + eight, p.count(2), 2);
        }
    }

    private static void room() {
        SpanParser p = new SpanParser();
        Check.type(p, "aaaaaaaa");
        Check.dueThrow("sixteen", Check.NO_ROOM, () -> p.type(Check.eight("bbbbbbbb")));
        Check.dueThrow("fifteen", Check.NO_ROOM, () -> p.type(Check.eight("bbbbbbb")));
        Check.dueThrow("too many and a wrong one", Check.BAD, () -> p.type(Check.eight("bbbbbbb ")));
        Check.due("none was added", p.count(2), 8);
        Check.due("fourteen", p.type(Check.eight("bbbbbb")), 14);
        Check.due("nothing more", p.type(0L), 14);
        Check.dueThrow("one more", Check.NO_ROOM, () -> p.type('c'));
        Check.dueThrow("one wrong", Check.BAD, () -> p.type(' '));
    }

    private static void doesNotTouchTheParse() {
        SpanParser p = Check.of("A:a");
        Check.parse(p, "a", Check.A);
        Check.type(p, "abc");
        Check.dueThrow("a wrong one", Check.BAD, () -> p.type(1L));
        Check.dueWeight("weight", p.weight(), 1.0);
        Check.due("input", p.count(4), 1);
        Check.due("text", p.count(2), 3);
    }

    /** The byte alone, and with seven right ones round it. */
    private static void everyByteInEveryPlace() {
        for (int place = 0; place < 8; place++) {
            for (int c = 0; c <= 255; c++) {
                SpanParser p = new SpanParser();
                long alone = (long) c << (8 * place);
                long among = 0x7878787878787878L & ~(255L << (8 * place)) | alone;
                if (c == 0) {
                    Check.due("a 0 is left out", p.type(alone), 0);
                    Check.due("a 0 among others is left out", p.type(among), 7);
                } else if (c >= 33 && c <= 126) {
                    Check.due("alone " + c, p.type(alone), 1);
                    Check.due("among others " + c, p.type(among), 9);
                } else {
                    Check.dueThrow("alone " + c, Check.BAD, () -> p.type(alone));
                    Check.dueThrow("among others " + c, Check.BAD, () -> p.type(among));
                    Check.due("none was added", p.count(2), 0);
                }
            }
        }
    }

    private static void everyLengthAndEveryAddition() {
        for (int length = 0; length <= 14; length++) {
            for (int added = 0; added <= 8; added++) {
                SpanParser p = new SpanParser();
                Check.type(p, "x".repeat(length));
                long eight = Check.eight("x".repeat(added));
                if (length + added <= 14) {
                    Check.due(length + " and " + added, p.type(eight), length + added);
                    Check.due("text", p.count(2), length + added);
                } else {
                    Check.dueThrow(length + " and " + added, Check.NO_ROOM, () -> p.type(eight));
                    Check.due("none was added", p.count(2), length);
                }
            }
        }
    }

    private static void refusedLeavesTheTextAsItWas() {
        SpanParser p = Check.of("A:xyB", "B:z", "B:zB");
        Check.type(p, "xyzzzzzz");
        Check.dueThrow("a wrong byte", Check.BAD, () -> p.type(0x7878787878780078L | 0x7F00));
        Check.dueThrow("one too many", Check.NO_ROOM, () -> p.type(Check.eight("zzzzzzz")));
        Check.due("six more", p.type(Check.eight("zzzzzz")), 14);
        Check.due("just these", p.parse(Check.A), 1);
        Check.due("begun again", p.type(Check.eight("xyz")), 3);
    }
}
