import java.nio.ByteBuffer;
import java.util.ArrayList;
import java.util.List;
import java.util.regex.Matcher;
import java.util.regex.Pattern;

/**
 * The twelve promises read plainly, call by call, with Oracle for the "Terms". An answer is written
 * out; an exception is its name.
 */
final class Model {
    static final String BAD = "IllegalArgumentException";
    static final String MISSING = "NoSuchElementException";
    static final String NO_ROOM = "IllegalStateException";
    static final String ROUND = "UnsupportedOperationException";
    static final String DONE = "null";

    /** From ! to ~ without G to Z and the colon. */
    private static final Pattern RULE = Pattern.compile("[A-F]:[!-9;-F\\[-~]{1,4}");

    private final Oracle oracle = new Oracle();
    private final List<Oracle.Derivation> nodes = new ArrayList<>();
    private String text = "";
    private int place = -1;

    String type(long eight) {
        StringBuilder more = new StringBuilder();
        for (byte b : ByteBuffer.allocate(8).putLong(eight).array()) {
            if (b != 0 && (b < 33 || b > 126)) {
                return BAD;
            }
            more.append(b == 0 ? "" : String.valueOf((char) b));
        }
        if (text.length() + more.length() > 14) {
            return NO_ROOM;
        }
        text = text + more;
        return String.valueOf(text.length());
    }

    String rule(double weight) {
        if (Double.isNaN(weight) || weight < 0.125 || weight > 8.0) {
            return BAD;
        }
        String read = text;
        text = "";
        if (oracle.rules.size() == 16) {
            return NO_ROOM;
        }
        if (!RULE.matcher(read).matches()) {
            place = placeOf(read);
            return BAD;
        }
        oracle.rules.add(read);
        if (oracle.chainsLeadRound()) {
            oracle.rules.remove(oracle.rules.size() - 1);
            return ROUND;
        }
        oracle.weights.add(weight);
        forget();
        return String.valueOf(oracle.rules.size() - 1);
    }

    private static int placeOf(String read) {
        for (int length = 1; length <= read.length(); length++) {
            Matcher begun = RULE.matcher(read.substring(0, length));
            if (!begun.matches() && !begun.hitEnd()) {
                return length - 1;
            }
        }
        return read.length();
    }

    String mark(int r, int how) {
        if (noRule(r) || how < 0 || how > 3) {
            return BAD;
        }
        oracle.marks[r] = how;
        return changed();
    }

    String bar(int r, int s, boolean barred) {
        if (noRule(r) || noRule(s)) {
            return BAD;
        }
        oracle.barred[r][s] = barred;
        return changed();
    }

    String follow(int n, int c, boolean may) {
        if (n < 0 || n > 5 || c < 33 || c > 126) {
            return BAD;
        }
        oracle.mayNotFollow[n][c] = !may;
        return changed();
    }

    String undo() {
        int latest = oracle.rules.size() - 1;
        if (latest < 0) {
            return MISSING;
        }
        oracle.rules.remove(latest);
        oracle.weights.remove(latest);
        oracle.marks[latest] = 0;
        for (int r = 0; r < 16; r++) {
            oracle.barred[r][latest] = false;
            oracle.barred[latest][r] = false;
        }
        return changed();
    }

    String parse(int n) {
        if (n < 0 || n > 5 || text.isEmpty()) {
            return BAD;
        }
        forget();
        oracle.take(text);
        text = "";
        Oracle.Derivations all = oracle.ofNonterminal(n, 0, oracle.input.length(), -1, 0);
        if (all.best == null) {
            return MISSING;
        }
        list(all.best);
        return String.valueOf(Oracle.cut(all.ways));
    }

    private void list(Oracle.Derivation node) {
        nodes.add(node);
        for (Oracle.Derivation below : node.below) {
            list(below);
        }
    }

    String weight() {
        return nodes.isEmpty() ? MISSING : String.valueOf(nodes.get(0).weight);
    }

    String node(int k, int what) {
        if (what < 0 || what > 3) {
            return BAD;
        }
        if (k < 0 || k >= nodes.size()) {
            return MISSING;
        }
        Oracle.Derivation node = nodes.get(k);
        int[] told = {node.rule, node.begin, node.end, node.nodes() - 1};
        return String.valueOf(told[what]);
    }

    String many(int r, int i, int j) {
        if (noRule(r)) {
            return BAD;
        }
        if (i < 0 || i >= j || j > oracle.input.length()) {
            return MISSING;
        }
        return String.valueOf(Oracle.cut(oracle.ofRule(r, i, j).ways));
    }

    String count(int what) {
        int[] told = {oracle.rules.size(), place, text.length(), nodes.size(), oracle.input.length()};
        return String.valueOf(what < 0 || what > 4 ? -1 : told[what]);
    }

    int rules() {
        return oracle.rules.size();
    }

    int nodes() {
        return nodes.size();
    }

    private boolean noRule(int r) {
        return r < 0 || r >= oracle.rules.size();
    }

    private String changed() {
        forget();
        return DONE;
    }

    private void forget() {
        nodes.clear();
        oracle.take("");
    }
}
