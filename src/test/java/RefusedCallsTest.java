import java.util.ArrayList;
import java.util.List;

/**
 * Every refused call in many states: what it leaves behind is just what the document says. An object
 * that had the call and one that never had it are asked the same questions, each on a new pair, so
 * that what can't be seen (the text, marks, bars, what may follow) shows in what comes later.
 */
public final class RefusedCallsTest {
    private static final String[] STATES = {"new", "rules", "parsed", "missed", "changed", "full"};
    private static final String[] TEXTS = {"", "x", "1+2*3", "A:y", "A:A", "A;", "1+2+3+4+5+6+77"};
    private static final String[] INPUTS = {"1+2+3", "1+2*3", "1*2+3", "if", "ifx+1", "abc", "azb", "x"};

    private interface Step {
        void on(SpanParser p);
    }

    private static final class Refused {
        private final String name;
        private final Class<?> exception;
        private final Step step;

        Refused(String name, Class<?> exception, Step step) {
            this.name = name;
            this.exception = exception;
            this.step = step;
        }
    }

    public static void main(String[] args) {
        for (String state : STATES) {
            for (String text : TEXTS) {
                refusedCallsThatLeaveAll(state, text);
                questionsLeaveAll(state, text);
                rulesThatEmptyTheText(state, text);
                parsesThatAreMissing(state, text);
            }
        }
        Check.end();
    }

    private static SpanParser make(String state, String text) {
        SpanParser p = new SpanParser();
        if (!state.equals("new")) {
            addGrammar(p);
        }
        if (state.equals("full")) {
            while (p.count(0) < 16) {
                Check.rule(p, "F:" + (char) ('a' + p.count(0)));
            }
        }
        if (state.equals("parsed") || state.equals("changed") || state.equals("full")) {
            Check.parse(p, "1+2*ab", Check.A);
        }
        if (state.equals("missed")) {
            Check.dueThrow("parse", Check.MISSING, () -> Check.parse(p, "1+if", Check.A));
        }
        if (state.equals("changed")) {
            p.bar(1, 0, true);
        }
        Check.type(p, text);
        return p;
    }

    private static void addGrammar(SpanParser p) {
        Check.rule(p, "A:A+A", 1.5);
        Check.rule(p, "A:A*A", 0.7);
        Check.rule(p, "A:#", 1.1);
        Check.rule(p, "A:B", 0.9);
        Check.rule(p, "B:@", 1.3);
        Check.rule(p, "B:@B", 2.1);
        Check.rule(p, "B:if", 1.0);
        Check.dueThrow("unreadable", Check.BAD, () -> Check.rule(p, "A:a:"));
        p.mark(0, 2);
        p.mark(6, 1);
        p.bar(1, 0, true);
        p.follow(Check.B, 'z', false);
    }

    private static void refusedCallsThatLeaveAll(String state, String text) {
        List<String> untouched = answers(state, text, q -> { }, true);
        for (Refused call : refusedCalls(make(state, text))) {
            String named = state + " with text " + text + ", " + call.name;
            Step refused = q -> Check.dueThrow(named, call.exception, () -> call.step.on(q));
            compare(named, answers(state, text, refused, true), untouched);
        }
    }

    private static List<Refused> refusedCalls(SpanParser p) {
        List<Refused> calls = new ArrayList<>();
        refusedTypes(calls, p.count(2));
        refusedChanges(calls, p.count(0), p.count(2));
        refusedQuestions(calls, p.count(0), p.count(3), p.count(4));
        return calls;
    }

    private static void add(List<Refused> calls, String name, Class<?> exception, Step step) {
        calls.add(new Refused(name, exception, step));
    }

    private static void refusedTypes(List<Refused> calls, int length) {
        add(calls, "type of 32", Check.BAD, q -> q.type(32L));
        add(calls, "type of 127", Check.BAD, q -> q.type(127L));
        add(calls, "type of eight, the last wrong", Check.BAD, q -> q.type(0x7878787878787801L));
        add(calls, "type of eight, the first wrong", Check.BAD, q -> q.type(0xFF78787878787878L));
        if (length == 14) {
            add(calls, "type of one too many", Check.NO_ROOM, q -> q.type('x'));
            add(calls, "type of eight too many", Check.NO_ROOM, q -> q.type(0x7878787878787878L));
        }
    }

    private static void refusedChanges(List<Refused> calls, int rules, int length) {
        for (double weight : new double[] {Math.nextDown(0.125), Math.nextUp(8.0), 0.0, Double.NaN}) {
            add(calls, "rule of " + weight, Check.BAD, q -> q.rule(weight));
        }
        for (int r : new int[] {-1, rules, 16, Integer.MAX_VALUE}) {
            add(calls, "mark of rule " + r, Check.BAD, q -> q.mark(r, 1));
            add(calls, "bar under rule " + r, Check.BAD, q -> q.bar(r, 0, true));
            add(calls, "bar of rule " + r, Check.BAD, q -> q.bar(0, r, true));
            add(calls, "bar no more of rule " + r, Check.BAD, q -> q.bar(1, r, false));
        }
        for (int how : new int[] {-1, 4}) {
            add(calls, "mark " + how, Check.BAD, q -> q.mark(0, how));
        }
        for (boolean may : new boolean[] {false, true}) {
            add(calls, "follow of -1", Check.BAD, q -> q.follow(-1, 'x', may));
            add(calls, "follow of 6", Check.BAD, q -> q.follow(6, 'x', may));
            add(calls, "follow by 32", Check.BAD, q -> q.follow(Check.B, 32, may));
            add(calls, "follow by 127", Check.BAD, q -> q.follow(Check.A, 127, may));
        }
        if (rules == 0) {
            add(calls, "undo", Check.MISSING, SpanParser::undo);
        }
        add(calls, "parse as -1", Check.BAD, q -> q.parse(-1));
        add(calls, "parse as 6", Check.BAD, q -> q.parse(6));
        if (length == 0) {
            add(calls, "parse of nothing", Check.BAD, q -> q.parse(Check.A));
        }
    }

    private static void refusedQuestions(List<Refused> calls, int rules, int nodes, int input) {
        if (nodes == 0) {
            add(calls, "weight", Check.MISSING, SpanParser::weight);
        }
        for (int k : new int[] {-1, nodes}) {
            add(calls, "node " + k, Check.MISSING, q -> q.node(k, 0));
            add(calls, "node " + k + " and what 4", Check.BAD, q -> q.node(k, 4));
        }
        add(calls, "node 0 and what -1", Check.BAD, q -> q.node(0, -1));
        add(calls, "many of rule -1", Check.BAD, q -> q.many(-1, 0, 1));
        add(calls, "many of rule " + rules, Check.BAD, q -> q.many(rules, 0, 1));
        if (rules > 0) {
            add(calls, "many from -1", Check.MISSING, q -> q.many(0, -1, 1));
            add(calls, "many too far", Check.MISSING, q -> q.many(0, 0, input + 1));
            add(calls, "many over nothing", Check.MISSING, q -> q.many(0, 0, 0));
        }
    }

    private static void questionsLeaveAll(String state, String text) {
        Step questions = q -> {
            for (int what = -1; what <= 5; what++) {
                q.count(what);
            }
            q.type(0L);
            look(q, true);
        };
        compare(state + " with text " + text + ", questions", answers(state, text, questions, true),
                answers(state, text, q -> { }, true));
    }

    private static void rulesThatEmptyTheText(String state, String text) {
        String named = state + ", rule " + text;
        boolean full = state.equals("full");
        if (!full && text.equals("A:y")) {
            return;
        }
        boolean round = text.equals("A:A");
        Class<?> exception = full ? Check.NO_ROOM : round ? Check.ROUND : Check.BAD;
        Step refused = q -> {
            Check.type(q, text);
            Check.dueThrow(named, exception, () -> q.rule(1.0));
        };
        boolean placeStays = full || round;
        compare(named, answers(state, "", refused, placeStays), answers(state, "", q -> { }, placeStays));
        if (!placeStays) {
            SpanParser q = make(state, "");
            refused.on(q);
            Check.due("place of " + named, q.count(1), text.equals("A;") ? 1 : 0);
        }
    }

    private static void parsesThatAreMissing(String state, String text) {
        if (text.isEmpty()) {
            return;
        }
        String named = state + ", missing parse of " + text;
        SpanParser p = make(state, text);
        int rules = p.count(0);
        int place = p.count(1);
        Check.dueThrow(named, Check.MISSING, () -> p.parse(Check.E));
        Check.due(named + ": rules", p.count(0), rules);
        Check.due(named + ": place", p.count(1), place);
        Check.due(named + ": text", p.count(2), 0);
        Check.due(named + ": nodes", p.count(3), 0);
        Check.due(named + ": input", p.count(4), text.length());
        Check.dueThrow(named + ": weight", Check.MISSING, p::weight);
        Check.dueThrow(named + ": node", Check.MISSING, () -> p.node(0, 0));
        Step missing = q -> {
            Check.type(q, text);
            Check.dueThrow(named, Check.MISSING, () -> q.parse(Check.E));
        };
        for (String input : INPUTS) {
            compare(named, List.of(parsedOnce(state, missing, input)), List.of(parsedOnce(state, q -> { }, input)));
        }
    }

    private static String parsedOnce(String state, Step first, String input) {
        SpanParser p = make(state, "");
        first.on(p);
        Check.ways(p, input, Check.A);
        return look(p, true);
    }

    private static void compare(String what, List<String> got, List<String> want) {
        for (int i = 0; i < want.size(); i++) {
            Check.dueTrue(what + ": then " + got.get(i) + ", due is " + want.get(i), got.get(i).equals(want.get(i)));
        }
    }

    /** What a new object in this state answers to each question, after the step. */
    private static List<String> answers(String state, String text, Step first, boolean withPlace) {
        List<String> answers = new ArrayList<>();
        for (Step question : questions()) {
            SpanParser p = make(state, text);
            first.on(p);
            StringBuilder answer = new StringBuilder(look(p, withPlace));
            try {
                question.on(p);
            } catch (RuntimeException e) {
                answer.append(e.getClass().getSimpleName());
            }
            answers.add(answer.append(look(p, withPlace)).toString());
        }
        return answers;
    }

    private static List<Step> questions() {
        List<Step> questions = new ArrayList<>();
        for (int n = 0; n < 3; n++) {
            int as = n;
            questions.add(q -> q.parse(as));
        }
        questions.add(q -> q.rule(1.0));
        questions.add(SpanParser::undo);
        questions.add(q -> q.type('x'));
        for (String input : INPUTS) {
            questions.add(q -> {
                emptyTheText(q);
                Check.parse(q, input, Check.A);
            });
        }
        return questions;
    }

    private static void emptyTheText(SpanParser p) {
        if (p.count(2) > 0) {
            Check.dueThrow("no rules of E", Check.MISSING, () -> p.parse(Check.E));
        }
    }

    /** All that can be asked without changing anything, within few calls. */
    private static String look(SpanParser p, boolean withPlace) {
        StringBuilder seen = new StringBuilder();
        for (int what = 0; what <= 4; what++) {
            seen.append(what == 1 && !withPlace ? "" : p.count(what) + " ");
        }
        if (p.count(3) > 0) {
            seen.append(p.weight()).append(' ').append(Check.tree(p));
        }
        int length = p.count(4);
        for (int r = 0; r < p.count(0) && length > 0; r++) {
            seen.append(' ').append(p.many(r, 0, length));
            for (int i = 0; i < length && r < 7; i++) {
                seen.append(',').append(p.many(r, i, i + 1));
            }
        }
        return seen.append(';').toString();
    }
}
