/** Promise 11: how many derivations a rule has over any span of the latest input. */
public final class Promise11ManyTest {
    public static void main(String[] args) {
        everySpan();
        rulesBesideTheParsedOne();
        afterAMissingParse();
        wrongNumbers();
        forgotten();
        firstAndLastRule();
        everyPlace();
        asForWeightButMissingWillDo();
        ofAnInputThatWasLonger();
        Check.end();
    }

    private static void everySpan() {
        SpanParser p = Check.of("A:AA", "A:x", "A:xA");
        int[] pairs = new int[15];
        int[] all = new int[15];
        for (int length = 1; length <= 14; length++) {
            for (int cut = 1; cut < length; cut++) {
                pairs[length] += all[cut] * all[length - cut];
            }
            all[length] = pairs[length] + (length == 1 ? 1 : all[length - 1]);
        }
        Check.due("all", Check.parse(p, "x".repeat(10), Check.A), all[10]);
        for (int i = 0; i < 10; i++) {
            for (int j = i + 1; j <= 10; j++) {
                Check.due("AA " + i + " " + j, p.many(0, i, j), pairs[j - i]);
                Check.due("x " + i + " " + j, p.many(1, i, j), j - i == 1 ? 1 : 0);
                Check.due("xA " + i + " " + j, p.many(2, i, j), j - i == 1 ? 0 : all[j - i - 1]);
            }
        }
    }

    private static void rulesBesideTheParsedOne() {
        SpanParser p = Check.of("A:x", "F:xB", "B:y");
        Check.due("parsed", Check.ways(p, "xy", Check.A), 0);
        Check.due("F", p.many(1, 0, 2), 1);
        Check.due("B", p.many(2, 1, 2), 1);
        Check.due("not there", p.many(2, 0, 1), 0);
    }

    private static void afterAMissingParse() {
        SpanParser p = Check.of("A:a", "A:aA");
        Check.due("missing", Check.ways(p, "aab", Check.A), 0);
        Check.due("many", p.many(1, 0, 2), 1);
        Check.due("none", p.many(1, 0, 3), 0);
        Check.due("a shorter input", Check.ways(p, "b", Check.A), 0);
        Check.dueThrow("the longer one is gone", Check.MISSING, () -> p.many(1, 0, 2));
        Check.due("none of the old", p.many(0, 0, 1), 0);
    }

    private static void wrongNumbers() {
        SpanParser p = Check.of("A:a", "A:aA");
        Check.dueThrow("no parse", Check.MISSING, () -> p.many(0, 0, 1));
        Check.dueThrow("no parse, no rule", Check.BAD, () -> p.many(2, 0, 1));
        Check.parse(p, "aaa", Check.A);
        for (int r : new int[] {-1, 2, 16, Integer.MIN_VALUE, Integer.MAX_VALUE}) {
            Check.dueThrow("rule " + r, Check.BAD, () -> p.many(r, 0, 1));
            Check.dueThrow("rule " + r + " and no span", Check.BAD, () -> p.many(r, 0, 9));
        }
        int[][] spans = {{-1, 1}, {0, 4}, {0, 0}, {1, 1}, {3, 3}, {2, 1}, {3, 4}, {4, 5}, {0, -1},
            {Integer.MIN_VALUE, 1}, {0, Integer.MAX_VALUE}, {Integer.MIN_VALUE, Integer.MAX_VALUE}, {1, 15}};
        for (int[] span : spans) {
            Check.dueThrow("span " + span[0] + " " + span[1], Check.MISSING, () -> p.many(0, span[0], span[1]));
        }
        Check.due("the last span", p.many(0, 2, 3), 1);
    }

    private static void forgotten() {
        SpanParser p = Check.of("A:a", "B:b");
        Check.Call[] changes = {() -> p.mark(1, 3), () -> p.bar(1, 1, true), () -> p.follow(5, 'q', false),
            () -> p.undo(), () -> Check.rule(p, "C:c")};
        for (int i = 0; i < changes.length; i++) {
            Check.parse(p, "a", Check.A);
            Check.due("before change " + i, p.many(0, 0, 1), 1);
            changes[i].run();
            Check.dueThrow("after change " + i, Check.MISSING, () -> p.many(0, 0, 1));
        }
    }

    private static void firstAndLastRule() {
        SpanParser p = new SpanParser();
        for (int r = 0; r < 16; r++) {
            Check.rule(p, "A:" + (char) ('a' + r));
        }
        Check.parse(p, "a", Check.A);
        Check.due("the first", p.many(0, 0, 1), 1);
        Check.due("the last", p.many(15, 0, 1), 0);
        Check.parse(p, "p", Check.A);
        Check.due("the first", p.many(0, 0, 1), 0);
        Check.due("the last", p.many(15, 0, 1), 1);
        Check.dueThrow("before the first", Check.BAD, () -> p.many(-1, 0, 1));
        Check.dueThrow("behind the last", Check.BAD, () -> p.many(16, 0, 1));
        Check.dueThrow("and no span", Check.BAD, () -> p.many(16, 1, 0));
        p.undo();
        Check.dueThrow("it went", Check.BAD, () -> p.many(15, 0, 1));
        Check.dueThrow("and no parse since", Check.MISSING, () -> p.many(14, 0, 1));
    }

    /** All pairs of places from before the first to behind the last, for the shortest and longest inputs. */
    private static void everyPlace() {
        for (int length : new int[] {1, 2, 13, 14}) {
            SpanParser p = Check.of("A:xA", "A:x");
            Check.parse(p, "x".repeat(length), Check.A);
            for (int i = -1; i <= length + 1; i++) {
                for (int j = -1; j <= length + 1; j++) {
                    int from = i;
                    int to = j;
                    if (i >= 0 && i < j && j <= length) {
                        Check.due(i + " to " + j, p.many(0, i, j), j - i > 1 ? 1 : 0);
                    } else {
                        Check.dueThrow(i + " to " + j, Check.MISSING, () -> p.many(0, from, to));
                    }
                }
            }
        }
    }

    private static void asForWeightButMissingWillDo() {
        SpanParser p = Check.of("A:a", "B:b");
        Check.Call[] changes = {() -> p.mark(1, 1), () -> p.bar(1, 1, true), () -> p.follow(5, 'q', false),
            () -> p.undo(), () -> Check.rule(p, "C:c")};
        for (int i = 0; i < changes.length; i++) {
            Check.dueThrow("missing", Check.MISSING, () -> Check.parse(p, "ba", Check.A));
            Check.dueThrow("no weight", Check.MISSING, p::weight);
            Check.due("a missing parse will do", p.many(0, 1, 2), 1);
            Check.due("and tells none", p.many(0, 0, 1), 0);
            changes[i].run();
            Check.dueThrow("after change " + i, Check.MISSING, () -> p.many(0, 1, 2));
        }
    }

    private static void ofAnInputThatWasLonger() {
        SpanParser p = Check.of("A:xA", "A:x");
        Check.parse(p, "xxxxxxxxxxxxxx", Check.A);
        Check.due("fourteen", p.many(0, 0, 14), 1);
        Check.parse(p, "xx", Check.A);
        Check.due("two", p.many(0, 0, 2), 1);
        Check.dueThrow("not three", Check.MISSING, () -> p.many(0, 0, 3));
        Check.dueThrow("not fourteen", Check.MISSING, () -> p.many(0, 0, 14));
    }
}
