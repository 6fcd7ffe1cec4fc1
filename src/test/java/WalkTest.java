import java.util.Map;
import java.util.TreeMap;
import java.util.function.Supplier;

/**
 * All promises together: long mixed runs of calls, right ones and wrong ones, each answer against
 * Model's. Here rules come and go, texts are left lying, and refused calls stand between others.
 */
public final class WalkTest {
    private static final int WALKS = 200;
    private static final int CALLS = 512;
    private static final double[] WEIGHTS = {0.125, 0.3, 0.7, 1.0, 1.0, 1.1, 3.3, 8.0};
    private static final double[] WRONG_WEIGHTS = {0.0, -1.0, 0.1249999, 8.000001, Double.NaN,
        Double.POSITIVE_INFINITY, Double.NEGATIVE_INFINITY};
    /** Rules of which a few together already parse something, often in several ways. */
    private static final String[] LIKELY = {"A:x", "A:AA", "A:@", "A:B", "A:AyA", "A:ABA", "B:x", "B:AA", "B:C",
        "B:@A", "C:y", "C:#", "C:xAB", "C:AAAA", "D:BB", "E:@", "F:xAx", "A:D"};
    private static final String LEFTS = "AAAABBBCCDEF";
    private static final String SYMBOLS = "AAAABBBCCDEFxxxx@@#y";
    private static final String INPUT = "xxxxxxy1";

    private static final Map<String, Integer> TOLD = new TreeMap<>();
    private static long seed = 20261116L;

    private final String name;
    private final SpanParser p = new SpanParser();
    private final Model m = new Model();
    /** Of twelve steps so many take rules away: some walks fill all room, some never do. */
    private final int undoing = pick(3);
    private int calls = 0;

    private WalkTest(String name) {
        this.name = name;
    }

    public static void main(String[] args) {
        for (int w = 0; w < WALKS; w++) {
            new WalkTest("walk " + w).walk();
        }
        System.out.println(TOLD);
        enough("type", Model.BAD, Model.NO_ROOM);
        enough("rule", Model.BAD, Model.NO_ROOM, Model.ROUND);
        enough("mark", Model.BAD, Model.DONE);
        enough("bar", Model.BAD, Model.DONE);
        enough("follow", Model.BAD, Model.DONE);
        enough("undo", Model.MISSING, Model.DONE);
        enough("parse", Model.BAD, Model.MISSING);
        enough("weight", Model.MISSING);
        enough("node", Model.BAD, Model.MISSING);
        enough("many", Model.BAD, Model.MISSING);
        enough("count");
        Check.end();
    }

    /** Without these the walks would have shown less than they seem to. */
    private static void enough(String call, String... answers) {
        for (String answer : answers) {
            Check.dueTrue(call + " told " + answer + " often", TOLD.getOrDefault(call + " " + answer, 0) >= 20);
        }
        Check.dueTrue(call + " told a number often",
                answers.length > 0 && answers[answers.length - 1].equals(Model.DONE)
                        || TOLD.getOrDefault(call + " number", 0) >= 200);
    }

    /** The same numbers in every run. */
    private static int pick(int bound) {
        seed = seed * 6364136223846793005L + 1442695040888963407L;
        return (int) ((seed >>> 33) % bound);
    }

    /** From one below the range to one above it. */
    private static int around(int from, int to) {
        return from - 1 + pick(to - from + 3);
    }

    private void walk() {
        while (calls < CALLS) {
            int step = pick(12);
            if (step < 4) {
                stepRule();
            } else if (step < 6) {
                stepChange();
            } else if (step < 6 + undoing) {
                ask("undo", () -> done(p::undo), m::undo);
            } else {
                stepParse();
            }
            if (pick(6) == 0) {
                stepWrong();
            }
            ask("count", () -> p.count(0), () -> m.count(0));
        }
    }

    private void stepRule() {
        StringBuilder text = new StringBuilder(pick(3) > 0 ? LIKELY[pick(LIKELY.length)] : anyRule());
        if (pick(6) == 0) {
            spoil(text);
        }
        typeInPieces(text.toString());
        if (pick(12) == 0) {
            double wrong = WRONG_WEIGHTS[pick(WRONG_WEIGHTS.length)];
            ask("rule", () -> p.rule(wrong), () -> m.rule(wrong));
        }
        double weight = WEIGHTS[pick(WEIGHTS.length)];
        ask("rule", () -> p.rule(weight), () -> m.rule(weight));
        ask("count", () -> p.count(1), () -> m.count(1));
    }

    private static String anyRule() {
        StringBuilder text = new StringBuilder();
        text.append(LEFTS.charAt(pick(LEFTS.length()))).append(':');
        for (int k = 1 + Math.min(pick(4), pick(3)); k > 0; k--) {
            text.append(SYMBOLS.charAt(pick(SYMBOLS.length())));
        }
        return text.toString();
    }

    private static void spoil(StringBuilder text) {
        int at = pick(text.length());
        char c = (char) (33 + pick(94));
        switch (pick(3)) {
            case 0:
                text.deleteCharAt(at);
                break;
            case 1:
                text.setCharAt(at, c);
                break;
            default:
                text.insert(at, c);
                break;
        }
    }

    private void typeInPieces(String text) {
        int from = 0;
        while (from < text.length()) {
            int to = Math.min(text.length(), from + (pick(3) == 0 ? 1 + pick(3) : 8));
            long eight = Check.eight(text.substring(from, to)) << 8 * pick(9 - (to - from));
            ask("type", () -> p.type(eight), () -> m.type(eight));
            from = to;
        }
    }

    private void stepChange() {
        int r = pick(8) == 0 ? around(0, m.rules() - 1) : pick(Math.max(1, m.rules()));
        int s = pick(8) == 0 ? around(0, m.rules() - 1) : pick(Math.max(1, m.rules()));
        boolean on = pick(2) > 0;
        switch (pick(3)) {
            case 0:
                int how = pick(2) == 0 ? 0 : around(0, 3);
                ask("mark", () -> done(() -> p.mark(r, how)), () -> m.mark(r, how));
                break;
            case 1:
                ask("bar", () -> done(() -> p.bar(r, s, on)), () -> m.bar(r, s, on));
                break;
            default:
                int n = around(0, 5);
                int c = pick(4) == 0 ? around(33, 126) : INPUT.charAt(pick(INPUT.length()));
                ask("follow", () -> done(() -> p.follow(n, c, !on)), () -> m.follow(n, c, !on));
                break;
        }
    }

    private void stepParse() {
        StringBuilder text = new StringBuilder();
        int kinds = pick(2) == 0 ? 1 : INPUT.length();
        for (int length = pick(pick(4) == 0 ? 15 : 6); length > 0; length--) {
            text.append(INPUT.charAt(pick(kinds)));
        }
        typeInPieces(text.toString());
        int n = pick(8) == 0 ? around(0, 5) : LEFTS.charAt(pick(LEFTS.length())) - 'A';
        ask("parse", () -> p.parse(n), () -> m.parse(n));
        for (int questions = pick(m.nodes() > 0 ? 20 : 4); questions > 0; questions--) {
            question();
        }
    }

    private void question() {
        switch (pick(4)) {
            case 0:
                ask("weight", p::weight, m::weight);
                break;
            case 1:
                int k = around(0, m.nodes() - 1);
                int what = pick(12) == 0 ? around(0, 3) : pick(4);
                ask("node", () -> p.node(k, what), () -> m.node(k, what));
                break;
            case 2:
                int r = around(0, m.rules() - 1);
                int i = around(0, 5);
                int j = pick(4) == 0 ? around(0, 14) : i + pick(5);
                ask("many", () -> p.many(r, i, j), () -> m.many(r, i, j));
                break;
            default:
                int of = around(0, 4);
                ask("count", () -> p.count(of), () -> m.count(of));
                break;
        }
    }

    /** Calls that are mostly refused, and ones that come where nobody would make them. */
    private void stepWrong() {
        switch (pick(4)) {
            case 0:
                long eight = (long) pick(1 << 30) << 34 ^ (long) pick(1 << 30) << 17 ^ pick(1 << 30);
                ask("type", () -> p.type(eight), () -> m.type(eight));
                break;
            case 1:
                ask("rule", () -> p.rule(1.0), () -> m.rule(1.0));
                break;
            case 2:
                int n = around(0, 5);
                ask("parse", () -> p.parse(n), () -> m.parse(n));
                break;
            default:
                typeInPieces("A:xyAxyA".substring(pick(8)));
                break;
        }
        question();
    }

    private static Object done(Runnable call) {
        call.run();
        return null;
    }

    private void ask(String call, Supplier<Object> got, Supplier<String> want) {
        if (calls >= CALLS) {
            return;
        }
        calls++;
        String answer = answerOf(got);
        String due = want.get();
        Check.dueTrue(name + " call " + calls + ": " + call + " answered " + answer + ", due is " + due,
                answer.equals(due));
        String kind = Character.isLetter(due.charAt(0)) ? due : "number";
        TOLD.merge(call + " " + kind, 1, Integer::sum);
    }

    private static String answerOf(Supplier<Object> call) {
        try {
            return String.valueOf(call.get());
        } catch (RuntimeException e) {
            return e.getClass().getSimpleName();
        }
    }
}
