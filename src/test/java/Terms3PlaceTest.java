/** Terms, "THE TEXT" and "THE PLACE": at most 14 characters, and where a text stops being a rule. */
public final class Terms3PlaceTest {
    public static void main(String[] args) {
        fourteenForRules();
        fourteenForInputs();
        firstCharacter();
        secondCharacter();
        symbolsOneToFour();
        theFifthSymbol();
        justTheEnd();
        theFirstOfSeveral();
        Check.end();
    }

    private static void duePlace(String text, int place) {
        SpanParser p = new SpanParser();
        Check.dueThrow(text, Check.BAD, () -> Check.rule(p, text));
        Check.due("place of " + text, p.count(1), place);
        Check.due("text after " + text, p.count(2), 0);
        Check.due("rules after " + text, p.count(0), 0);
    }

    private static void dueRead(String text) {
        SpanParser p = new SpanParser();
        Check.due(text, Check.rule(p, text), 0);
        Check.due("no place of " + text, p.count(1), -1);
    }

    private static void fourteenForRules() {
        duePlace("A:abcdefghijkl", 6);
        duePlace("abcdefghijklmn", 0);
        SpanParser p = new SpanParser();
        Check.type(p, "A:abcdefghijkl");
        Check.dueThrow("the fifteenth", Check.NO_ROOM, () -> p.type('m'));
        Check.due("fourteen are there", p.count(2), 14);
    }

    private static void fourteenForInputs() {
        SpanParser p = Check.of("A:xA", "A:x", "A:y");
        Check.type(p, "xxxxxxxxxxxxxx");
        Check.dueThrow("the fifteenth", Check.NO_ROOM, () -> p.type('y'));
        Check.due("fourteen are parsed", p.parse(Check.A), 1);
        Check.due("input", p.count(4), 14);
        Check.due("the last of them", p.many(1, 13, 14), 1);
        Check.due("thirteen", Check.parse(p, "xxxxxxxxxxxxx", Check.A), 1);
    }

    private static boolean isSymbol(char c) {
        return c != ':' && (c < 'G' || c > 'Z');
    }

    private static void firstCharacter() {
        for (char c = 33; c <= 126; c++) {
            if (c >= 'A' && c <= 'F') {
                dueRead(c + ":x");
            } else {
                duePlace(c + ":x", 0);
                duePlace(String.valueOf(c), 0);
            }
        }
    }

    private static void secondCharacter() {
        for (char c = 33; c <= 126; c++) {
            if (c != ':') {
                duePlace("A" + c + "x", 1);
                duePlace("A" + c, 1);
            }
        }
    }

    private static void symbolsOneToFour() {
        String before = "A:";
        for (int k = 0; k < 4; k++) {
            for (char c = 33; c <= 126; c++) {
                if (isSymbol(c)) {
                    // Another left, so that one nonterminal alone is no chain round.
                    dueRead((c == 'A' ? before.replace('A', 'B') : before) + c);
                } else {
                    duePlace(before + c, k + 2);
                    duePlace(before + c + "x", k + 2);
                }
            }
            before += "x";
        }
    }

    private static void theFifthSymbol() {
        for (char c = 33; c <= 126; c++) {
            duePlace("A:xxxx" + c, 6);
        }
        duePlace("A:xxxxxx", 6);
        duePlace("A:xxxxx:", 6);
        dueRead("A:xxxx");
    }

    private static void justTheEnd() {
        duePlace("", 0);
        for (char c = 'A'; c <= 'F'; c++) {
            duePlace(String.valueOf(c), 1);
            duePlace(c + ":", 2);
        }
    }

    private static void theFirstOfSeveral() {
        duePlace("::", 0);
        duePlace("gg:G", 0);
        duePlace("AA:", 1);
        duePlace("A;::", 1);
        duePlace("A:GG", 2);
        duePlace("A:aG:Z", 3);
        duePlace("A:abG:Z", 4);
        duePlace("A:abcGZ", 5);
        duePlace("A:abcdGZ", 6);
    }
}
