/** Terms, "SYMBOLS": which characters are symbols, and what each stands for, at the edges of each range. */
public final class Terms1SymbolsTest {
    public static void main(String[] args) {
        nonterminalsAreAToF();
        nonterminalsAreNoCharacters();
        digits();
        letters();
        othersAreThemselves();
        firstAndLastCharacter();
        notGToZ();
        notTheColon();
        Check.end();
    }

    /** The characters of the input for which the symbol stands. */
    private static String standsFor(String symbol) {
        SpanParser p = Check.of("A:" + symbol);
        StringBuilder found = new StringBuilder();
        for (char c = 33; c <= 126; c++) {
            if (Check.ways(p, String.valueOf(c), Check.A) == 1) {
                found.append(c);
            }
        }
        return found.toString();
    }

    private static void dueStandsFor(String symbol, String want) {
        String got = standsFor(symbol);
        Check.dueTrue(symbol + " stands for " + got + ", due is " + want, got.equals(want));
    }

    private static void dueUnreadable(String text, int place) {
        SpanParser p = new SpanParser();
        Check.dueThrow(text, Check.BAD, () -> Check.rule(p, text));
        Check.due("place of " + text, p.count(1), place);
        Check.due("rules after " + text, p.count(0), 0);
    }

    private static void nonterminalsAreAToF() {
        String[] names = {"A", "B", "C", "D", "E", "F"};
        for (int n = 0; n < names.length; n++) {
            SpanParser p = Check.of(names[n] + ":x");
            for (int asked = 0; asked < names.length; asked++) {
                Check.due(names[n] + " as " + asked, Check.ways(p, "x", asked), asked == n ? 1 : 0);
            }
        }
        dueUnreadable("@:x", 0);
        dueUnreadable("G:x", 0);
        dueUnreadable("a:x", 0);
        dueUnreadable("f:x", 0);
    }

    private static void nonterminalsAreNoCharacters() {
        dueStandsFor("B", "");
        dueStandsFor("F", "");
        SpanParser p = Check.of("B:AF", "A:x", "F:y");
        Check.due("by their rules", Check.ways(p, "xy", Check.B), 1);
        Check.due("not by their names", Check.ways(p, "AF", Check.B), 0);
    }

    private static void digits() {
        dueStandsFor("#", "0123456789");
    }

    private static void letters() {
        dueStandsFor("@", "abcdefghijklmnopqrstuvwxyz");
    }

    private static void othersAreThemselves() {
        for (String symbol : new String[] {"0", "9", "a", "z", "/", ";", "`", "{", "?", "[", "\"", "$"}) {
            dueStandsFor(symbol, symbol);
        }
    }

    private static void firstAndLastCharacter() {
        dueStandsFor("!", "!");
        dueStandsFor("~", "~");
    }

    private static void notGToZ() {
        dueUnreadable("A:G", 2);
        dueUnreadable("A:Z", 2);
        for (char c = 'G'; c <= 'Z'; c++) {
            dueUnreadable("A:x" + c, 3);
        }
        Check.due("the last before them", Check.rule(new SpanParser(), "A:F"), 0);
        Check.due("the first behind them", Check.rule(new SpanParser(), "A:["), 0);
    }

    private static void notTheColon() {
        dueUnreadable("A::", 2);
        dueUnreadable("A:x:", 3);
        Check.due("the one before it", Check.rule(new SpanParser(), "A:9"), 0);
        Check.due("the one behind it", Check.rule(new SpanParser(), "A:;"), 0);
    }
}
