import java.util.NoSuchElementException;

/** What the tests share: texts typed whole, answers compared, and an exit code at the end. */
final class Check {
    static final Class<?> BAD = IllegalArgumentException.class;
    static final Class<?> MISSING = NoSuchElementException.class;
    static final Class<?> NO_ROOM = IllegalStateException.class;
    static final Class<?> ROUND = UnsupportedOperationException.class;

    static final int A = 0;
    static final int B = 1;
    static final int C = 2;
    static final int D = 3;
    static final int E = 4;
    static final int F = 5;

    private static int wrong = 0;
    private static int asked = 0;

    private Check() {
    }

    interface Call {
        void run();
    }

    static void due(String what, long got, long want) {
        asked++;
        if (got != want) {
            complain(what + " answered " + got + ", due is " + want);
        }
    }

    static void dueWeight(String what, double got, double want) {
        asked++;
        if (Double.compare(got, want) != 0) {
            complain(what + " answered " + got + ", due is " + want);
        }
    }

    static void dueTrue(String what, boolean got) {
        due(what, got ? 1 : 0, 1);
    }

    /** The class must be just this one: a subclass of what the document names is another exception. */
    static void dueThrow(String what, Class<?> exception, Call call) {
        asked++;
        Class<?> got = null;
        try {
            call.run();
        } catch (RuntimeException e) {
            got = e.getClass();
        }
        if (got != exception) {
            complain(what + " threw " + got + ", due is " + exception);
        }
    }

    private static void complain(String text) {
        wrong++;
        System.out.println(text);
    }

    static void end() {
        if (asked == 0) {
            complain("nothing was asked");
        }
        if (wrong > 0) {
            System.exit(1);
        }
    }

    static long eight(String text) {
        long eight = 0;
        for (int i = 0; i < text.length(); i++) {
            eight = eight << 8 | text.charAt(i);
        }
        return eight;
    }

    static void type(SpanParser p, String text) {
        for (int i = 0; i < text.length(); i += 8) {
            p.type(eight(text.substring(i, Math.min(text.length(), i + 8))));
        }
    }

    static int rule(SpanParser p, String text, double weight) {
        type(p, text);
        return p.rule(weight);
    }

    static int rule(SpanParser p, String text) {
        return rule(p, text, 1.0);
    }

    static SpanParser of(String... rules) {
        SpanParser p = new SpanParser();
        for (String text : rules) {
            rule(p, text);
        }
        return p;
    }

    static int parse(SpanParser p, String input, int n) {
        type(p, input);
        return p.parse(n);
    }

    /** How many derivations there are, 0 if the parse is missing. */
    static int ways(SpanParser p, String input, int n) {
        type(p, input);
        try {
            return p.parse(n);
        } catch (NoSuchElementException e) {
            return 0;
        }
    }

    /** The tree written as rule[begin,end below] node by node. */
    static String tree(SpanParser p) {
        StringBuilder written = new StringBuilder();
        int nodes = p.count(3);
        for (int k = 0; k < nodes; k++) {
            written.append(p.node(k, 0)).append('[').append(p.node(k, 1)).append(',')
                    .append(p.node(k, 2)).append(' ').append(p.node(k, 3)).append(']');
        }
        return written.toString();
    }

    static void dueTree(String what, SpanParser p, String want) {
        asked++;
        String got = tree(p);
        if (!got.equals(want)) {
            complain(what + " has the tree " + got + ", due is " + want);
        }
    }
}
