import java.util.ArrayDeque;
import java.util.Arrays;
import java.util.Deque;
import java.util.regex.Matcher;
import java.util.regex.Pattern;

/**
 * The document's terms once more, by other means than the class: lines are Strings, a command is what a
 * pattern matches, cheapest rows are found by letting rows grow in the order of their numbers.
 */
final class Model {
    private static final String NUMBER = "([1-9][0-9]*+)?+";
    private static final String MOTION = "([hl0$wbe]|[ft].|'[a-d])";
    private static final Pattern COMMAND = Pattern.compile(
        NUMBER + "(?:" + MOTION + "|([dyc])" + NUMBER + "(?:" + MOTION + "|([ia][wb])|(\\3))|([x~pPiaIAu.])|(r.)|(m[a-d]))");

    String line = "";
    int cursor = 0;
    String store = "";
    Integer[] marks = new Integer[4];
    int[] prices = {1, 1, 1, 1, 1, 1, 1};
    Deque<String> past = new ArrayDeque<>();
    String latest = "";
    String pending = "";
    boolean inserts = false;
    private String typed = "";
    private String ahead = "";
    private boolean again = false;

    void tell(String text) {
        line = text;
        cursor = 0;
        store = "";
        marks = new Integer[4];
        past.clear();
        latest = "";
        pending = "";
        inserts = false;
    }

    Model copy() {
        Model other = new Model();
        other.line = line;
        other.cursor = cursor;
        other.store = store;
        other.marks = marks.clone();
        other.prices = prices.clone();
        other.past = new ArrayDeque<>(past);
        other.latest = latest;
        other.pending = pending;
        other.inserts = inserts;
        other.typed = typed;
        other.ahead = ahead;
        return other;
    }

    int last() {
        return Math.max(0, line.length() - 1);
    }

    int setOfMarks() {
        int set = 0;
        for (int k = 0; k < marks.length; k++) {
            set |= marks[k] == null ? 0 : 1 << k;
        }
        return set;
    }

    int[] counts() {
        int words = (int) Arrays.stream(line.split("[^a-zA-Z0-9]+")).filter(w -> !w.isEmpty()).count();
        return new int[] {line.length(), cursor, inserts ? 1 : 0, pending.isEmpty() ? 0 : 1, store.length(), setOfMarks(),
            past.size(), words, Math.min(31, latest.length())};
    }

    /** The motions, as deeds, that lead from the cursor to each place. */
    int[] setsAtOnce() {
        int[] sets = new int[last() + 1];
        for (int motion = 0; motion < 7; motion++) {
            sets[Math.min(last(), lead(motion, Math.min(cursor, last())))] |= 1 << motion;
        }
        return sets;
    }

    /** How many letters go by d with a motion n times, by trying it on another line. */
    int wouldGo(int motion, int n) {
        Model other = new Model();
        other.line = line;
        other.cursor = Math.min(cursor, last());
        for (char c : (n + "d" + "hl0$wbe".charAt(motion)).toCharArray()) {
            other.key(c);
        }
        return line.length() - other.line.length();
    }

    private String moment() {
        return (char) cursor + line;
    }

    int key(char c) {
        if (inserts) {
            return insert(c);
        }
        pending += c;
        Matcher m = COMMAND.matcher(pending);
        if (m.matches()) {
            typed = pending;
            pending = "";
            ahead = moment();
            return deed(m) ? inserts ? 2 : 0 : -2;
        }
        if (m.hitEnd()) {
            return 1;
        }
        pending = "";
        return -2;
    }

    private int insert(char c) {
        typed += c;
        if (c == '!') {
            inserts = false;
            cursor = Math.max(0, cursor - 1);
            changed();
            return 0;
        }
        if (line.length() == 60) {
            return -3;
        }
        line = line.substring(0, cursor) + c + line.substring(cursor);
        cursor++;
        return 2;
    }

    private void changed() {
        past.addLast(ahead);
        if (past.size() > 8) {
            past.removeFirst();
        }
        if (!again) {
            latest = typed;
        }
    }

    private static int number(String figures) {
        return figures == null ? 1 : figures.length() > 2 ? 99 : Integer.parseInt(figures);
    }

    private boolean deed(Matcher m) {
        int n = number(m.group(1));
        if (m.group(2) != null) {
            int p = reach(m.group(2), n);
            cursor = p < 0 ? cursor : Math.min(p, last());
            return p >= 0;
        }
        if (m.group(3) != null) {
            int[] range = range(m, Math.min(99, n * number(m.group(4))));
            return range != null && operate(m.group(3).charAt(0), range[0], range[1]);
        }
        if (m.group(9) != null) {
            return overwrite(m.group(9).charAt(1), n);
        }
        if (m.group(10) != null) {
            marks[m.group(10).charAt(1) - 'a'] = cursor;
            return true;
        }
        return single(m.group(8).charAt(0), n);
    }

    private boolean single(char c, int n) {
        int behind = Math.min(line.length(), cursor + 1);
        switch (c) {
            case 'x': return !line.isEmpty() && operate('d', cursor, Math.min(line.length(), cursor + n));
            case '~': return swap(n);
            case 'p': return put(behind, n);
            case 'P': return put(cursor, n);
            case 'i': return begin(cursor);
            case 'a': return begin(behind);
            case 'I': return begin(0);
            case 'A': return begin(line.length());
            case 'u': return undo(n);
            default: return repeat();
        }
    }

    private boolean begin(int p) {
        cursor = p;
        inserts = true;
        return true;
    }

    private boolean undo(int n) {
        if (past.isEmpty()) {
            return false;
        }
        for (int i = 0; i < n && !past.isEmpty(); i++) {
            String then = past.removeLast();
            cursor = then.charAt(0);
            line = then.substring(1);
        }
        return true;
    }

    private boolean repeat() {
        if (latest.isEmpty() || latest.length() > 30) {
            return false;
        }
        again = true;
        boolean good = true;
        for (int i = 0; i < latest.length() && good; i++) {
            good = key(latest.charAt(i)) != -2;
        }
        again = false;
        return good;
    }

    private boolean put(int p, int n) {
        String more = store.repeat(n);
        if (more.isEmpty() || more.length() + line.length() > 60) {
            return false;
        }
        line = line.substring(0, p) + more + line.substring(p);
        cursor = p + more.length() - 1;
        changed();
        return true;
    }

    private boolean swap(int n) {
        if (line.isEmpty()) {
            return false;
        }
        int end = Math.min(line.length(), cursor + n);
        StringBuilder b = new StringBuilder(line);
        for (int p = cursor; p < end; p++) {
            char c = line.charAt(p);
            b.setCharAt(p, Character.isLowerCase(c) ? Character.toUpperCase(c) : Character.toLowerCase(c));
        }
        line = b.toString();
        cursor = Math.min(end, last());
        changed();
        return true;
    }

    private boolean overwrite(char c, int n) {
        if (line.length() - cursor < n) {
            return false;
        }
        line = line.substring(0, cursor) + String.valueOf(c).repeat(n) + line.substring(cursor + n);
        cursor += n - 1;
        changed();
        return true;
    }

    private boolean operate(char c, int from, int to) {
        if (from < to) {
            store = line.substring(from, to);
        }
        if (c != 'y') {
            line = line.substring(0, from) + line.substring(to);
        }
        if (c == 'c') {
            return begin(from);
        }
        cursor = Math.min(from, last());
        if (c == 'd' && from < to) {
            changed();
        }
        return true;
    }

    private int[] range(Matcher m, int n) {
        if (m.group(7) != null) {
            return new int[] {0, line.length()};
        }
        if (m.group(6) != null) {
            return m.group(6).charAt(1) == 'w' ? word(m.group(6).charAt(0)) : brackets(m.group(6).charAt(0));
        }
        int p = reach(m.group(5), n);
        if (p < 0) {
            return null;
        }
        int more = "$eft".indexOf(m.group(5).charAt(0)) >= 0 ? 1 : 0;
        return new int[] {Math.min(p, cursor), Math.min(line.length(), Math.max(p, cursor) + more)};
    }

    private int[] word(char how) {
        if (line.isEmpty()) {
            return null;
        }
        Matcher rows = Pattern.compile("(?: +|[a-zA-Z0-9]+|[^ a-zA-Z0-9]+)").matcher(line);
        while (rows.find()) {
            if (rows.end() > cursor) {
                int to = rows.end();
                while (how == 'a' && to < line.length() && line.charAt(to) == ' ') {
                    to++;
                }
                return new int[] {rows.start(), to};
            }
        }
        return null;
    }

    /** By pairing all brackets from the left: the pair that holds the cursor and begins last. */
    private int[] brackets(char how) {
        Deque<Integer> open = new ArrayDeque<>();
        int[] best = null;
        int opening = nearestOpening();
        for (int p = 0; p < line.length(); p++) {
            if (line.charAt(p) == '(') {
                open.push(p);
            } else if (line.charAt(p) == ')' && !open.isEmpty()) {
                int from = open.pop();
                if (from == opening) {
                    best = how == 'a' ? new int[] {from, p + 1} : new int[] {from + 1, p};
                }
            }
        }
        return best;
    }

    private int nearestOpening() {
        String left = line.substring(0, Math.min(cursor + 1, line.length()));
        if (left.endsWith(")")) {
            left = left.substring(0, left.length() - 1) + ".";
        }
        String before;
        do {
            before = left;
            Matcher pair = Pattern.compile("\\([^()]*\\)").matcher(left);
            StringBuilder b = new StringBuilder(left);
            while (pair.find()) {
                b.setCharAt(pair.start(), '.');
                b.setCharAt(pair.end() - 1, '.');
            }
            left = b.toString();
        } while (!before.equals(left));
        int unpaired = left.lastIndexOf(')');
        int opening = left.lastIndexOf('(');
        // A ) that no ( is left for stands in the way of all that is ahead of it.
        return unpaired > opening ? -1 : opening;
    }

    /** Where a motion leads n times, or -1. */
    private int reach(String motion, int n) {
        char c = motion.charAt(0);
        if (c == '\'') {
            Integer mark = marks[motion.charAt(1) - 'a'];
            return mark == null ? -1 : Math.min(mark, line.length());
        }
        int p = Math.min(cursor, last());
        for (int i = 0; i < n; i++) {
            if (c == 'f' || c == 't') {
                p = line.indexOf(motion.charAt(1), p + 1);
                if (p < 0) {
                    return -1;
                }
            } else {
                p = lead("hl0$wbe".indexOf(c), p);
            }
        }
        return c == 't' ? p - 1 : p;
    }

    int lead(int motion, int p) {
        String right = line.substring(Math.min(p, line.length()));
        String left = line.substring(0, p);
        switch (motion) {
            case 0: return Math.max(0, p - 1);
            case 1: return Math.min(line.length(), p + 1);
            case 2: return 0;
            case 3: return last();
            case 4: return p + lengthOf("^(?:[a-zA-Z0-9]+|[^ a-zA-Z0-9]+)? *", right);
            case 5: return p - lengthOf("(?:(?<![a-zA-Z0-9])[a-zA-Z0-9]+|(?<![^ a-zA-Z0-9])[^ a-zA-Z0-9]+|^) *$", left);
            default:
                String on = right.isEmpty() ? "" : right.substring(1);
                Matcher m = Pattern.compile("^ *(?:[a-zA-Z0-9]+|[^ a-zA-Z0-9]+)").matcher(on);
                return m.find() ? p + m.end() : last();
        }
    }

    private static int lengthOf(String pattern, String text) {
        Matcher m = Pattern.compile(pattern).matcher(text);
        return m.find() ? m.end() - m.start() : 0;
    }

    int priceOf(String row) {
        int sum = 0;
        for (int i = 0; i < row.length(); i++) {
            sum += prices[row.charAt(i) - '0'];
        }
        return sum;
    }

    /** To each place the first of the cheapest rows: what one motion more makes better is taken, till none does. */
    String[] cheapestRows() {
        int places = last() + 1;
        int[][] leads = leadsOfAll();
        String[] rows = new String[places];
        rows[Math.min(cursor, last())] = "";
        boolean better = true;
        while (better) {
            better = false;
            for (int p = 0; p < places; p++) {
                for (int motion = 0; rows[p] != null && motion < 7; motion++) {
                    int q = leads[motion][p];
                    String row = rows[p] + motion;
                    if (rows[q] == null || isBetter(row, rows[q])) {
                        rows[q] = row;
                        better = true;
                    }
                }
            }
        }
        return rows;
    }

    private boolean isBetter(String row, String than) {
        int less = priceOf(than) - priceOf(row);
        return less > 0 || less == 0 && row.compareTo(than) < 0;
    }

    /** How many of all rows of n motions end at each place. */
    int[] endsOfRows(int n) {
        int[] ends = new int[last() + 1];
        walk(Math.min(cursor, last()), n, ends, leadsOfAll());
        return ends;
    }

    private int[][] leadsOfAll() {
        int[][] leads = new int[7][last() + 1];
        for (int motion = 0; motion < 7; motion++) {
            for (int p = 0; p <= last(); p++) {
                leads[motion][p] = Math.min(lead(motion, p), last());
            }
        }
        return leads;
    }

    private static void walk(int p, int n, int[] ends, int[][] leads) {
        if (n == 0) {
            ends[p]++;
            return;
        }
        for (int motion = 0; motion < 7; motion++) {
            walk(leads[motion][p], n - 1, ends, leads);
        }
    }

    static int commonDivisor(int a, int b) {
        return b == 0 ? a : commonDivisor(b, a % b);
    }
}
