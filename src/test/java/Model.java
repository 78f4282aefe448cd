import java.util.ArrayList;
import java.util.HashMap;
import java.util.List;
import java.util.Map;

/** The document once more, in its plainest form and without regard to what it takes; compared by ModelTest. */
final class Model {
    private static final long NO = Long.MIN_VALUE;
    private static final Grammar GRAMMAR = new Grammar(5);

    /** What stands behind a part: goes on from a place, and tells whether the search has ended. */
    private interface Behind {
        boolean from(int place);
    }

    private interface Operand {
        Integer at(int start, int row);
    }

    private interface Condition {
        boolean at(int start, int row);
    }

    private static final class TooMuch extends RuntimeException {
        private static final long serialVersionUID = 1L;
    }

    private record Match(int start, List<Integer> letters) {
        Integer letter(int row) {
            return row >= start && row < start + letters.size() ? letters.get(row - start) : null;
        }
    }

    private record Image(List<Integer[]> rows, Map<Integer, Condition> conditions, Tree pattern, List<Tree> parts,
        int mode, int letter, int empties, int may, List<Match> matches) {
    }

    private List<Integer[]> rows = new ArrayList<>();
    private Map<Integer, Condition> conditions = new HashMap<>();
    private Tree pattern;
    private List<Tree> parts = new ArrayList<>();
    private int mode;
    private int letter;
    private int empties = 1;
    private int may = 5000;
    private List<Match> matches = new ArrayList<>();
    private final StringBuilder tape = new StringBuilder();
    private String paper = "";
    private final long[][] lists = new long[4][];
    private Image image;
    private int tried;
    private List<Integer> so = new ArrayList<>();

    private static boolean cellBad(int v) {
        return v < -999 || v > 1000;
    }

    private static Integer[] cells(int x, int y) {
        return new Integer[] {x == 1000 ? null : x, y == 1000 ? null : y};
    }

    private boolean isRow(int row) {
        return row >= 0 && row < rows.size();
    }

    int row(int x, int y) {
        if (cellBad(x) || cellBad(y)) {
            return -2;
        }
        if (rows.size() == 32) {
            return -4;
        }
        rows.add(cells(x, y));
        matches = new ArrayList<>();
        return rows.size() - 1;
    }

    int set(int row, int x, int y) {
        if (!isRow(row)) {
            return -1;
        }
        if (cellBad(x) || cellBad(y)) {
            return -2;
        }
        rows.set(row, cells(x, y));
        matches = new ArrayList<>();
        return rows.size();
    }

    int drop() {
        if (rows.isEmpty()) {
            return -3;
        }
        rows.remove(rows.size() - 1);
        matches = new ArrayList<>();
        return rows.size();
    }

    int cell(int row, int column) {
        if (!isRow(row) || column < 0 || column > 1) {
            return -1;
        }
        Integer v = rows.get(row)[column];
        return v == null ? 1000 : v;
    }

    int feed(int b) {
        if (b < 1 || b > 127) {
            return -2;
        }
        if (tape.length() == 120) {
            return -4;
        }
        tape.append((char) b);
        return tape.length();
    }

    int clear() {
        int had = tape.length();
        tape.setLength(0);
        return had;
    }

    int pattern() {
        String text = tape.toString();
        tape.setLength(0);
        int fault = GRAMMAR.patternFault(text);
        if (fault >= 0) {
            return -100 - fault;
        }
        pattern = Tree.read(text);
        parts = pattern.numbered();
        matches = new ArrayList<>();
        return parts.size();
    }

    int define() {
        String text = tape.toString();
        tape.setLength(0);
        int fault = GRAMMAR.conditionsFault(text);
        if (fault >= 0) {
            return -100 - fault;
        }
        conditions = new HashMap<>(conditions);
        String[] told = text.split(";", -1);
        for (String one : told) {
            int of = one.charAt(0) - 'A';
            if (one.length() == 2) {
                conditions.remove(of);
            } else {
                conditions.put(of, condition(one.substring(2)));
            }
        }
        matches = new ArrayList<>();
        return told.length;
    }

    /** The last place of such a sign outside brackets; -1. */
    private static int lastOutside(String text, char sign) {
        int depth = 0;
        int at = -1;
        for (int i = 0; i < text.length(); i++) {
            char c = text.charAt(i);
            depth += c == '(' ? 1 : c == ')' ? -1 : 0;
            at = depth == 0 && c == sign ? i : at;
        }
        return at;
    }

    private Condition condition(String text) {
        for (char sign : new char[] {'|', '&'}) {
            int at = lastOutside(text, sign);
            if (at >= 0) {
                Condition left = condition(text.substring(0, at));
                Condition right = condition(text.substring(at + 1));
                return sign == '|' ? (s, r) -> left.at(s, r) || right.at(s, r) : (s, r) -> left.at(s, r) && right.at(s, r);
            }
        }
        if (text.charAt(0) == '!') {
            Condition inner = condition(text.substring(1));
            return (s, r) -> !inner.at(s, r);
        }
        if (text.charAt(0) == '(') {
            return condition(text.substring(1, text.length() - 1));
        }
        int at = 0;
        while ("<=>".indexOf(text.charAt(at)) < 0) {
            at++;
        }
        char sign = text.charAt(at);
        Operand left = operand(text.substring(0, at));
        Operand right = operand(text.substring(at + 1));
        return (s, r) -> {
            Integer a = left.at(s, r);
            Integer b = right.at(s, r);
            return a != null && b != null && Integer.signum(a.compareTo(b)) == "<=>".indexOf(sign) - 1;
        };
    }

    private Integer number(int row, int column) {
        return isRow(row) ? rows.get(row)[column] : null;
    }

    private List<Integer> rowsOf(int of, int start, int row) {
        List<Integer> out = new ArrayList<>();
        for (int r = start; r <= row; r++) {
            if (so.get(r - start) == of) {
                out.add(r);
            }
        }
        return out;
    }

    private Operand operand(String text) {
        int column = text.charAt(text.length() - 1) == 'y' ? 1 : 0;
        int of = text.length() > 1 ? text.charAt(1) - 'A' : 0;
        switch (text.charAt(0)) {
            case 'x':
            case 'y': return (s, r) -> number(r, column);
            case 'p': return (s, r) -> number(r - 1, column);
            case 'n': return (s, r) -> number(r + 1, column);
            case 'c': return (s, r) -> rowsOf(of, s, r).size();
            case 'f': return (s, r) -> rowsOf(of, s, r).isEmpty() ? null : number(rowsOf(of, s, r).get(0), column);
            case 'l': return (s, r) -> {
                List<Integer> all = rowsOf(of, s, r);
                return all.isEmpty() ? null : number(all.get(all.size() - 1), column);
            };
            case 's': return (s, r) -> {
                int sum = 0;
                for (int one : rowsOf(of, s, r)) {
                    sum += number(one, column) == null ? 0 : number(one, column);
                }
                return sum;
            };
            default:
                int value = Integer.parseInt(text);
                return (s, r) -> value;
        }
    }

    int part(int part, int what) {
        return pattern == null || part < 0 || part >= parts.size() ? -1 : parts.get(part).fact(what);
    }

    int spell() {
        if (pattern == null) {
            return -3;
        }
        paper = pattern.spelled();
        return paper.length();
    }

    int paper(int i) {
        return i < 0 || i >= paper.length() ? -1 : paper.charAt(i);
    }

    int mode(int newMode, int newLetter) {
        if (newMode < 0 || newMode > 3 || newLetter < 0 || newLetter > 25) {
            return -1;
        }
        int was = 10 * letter + mode;
        mode = newMode;
        letter = newLetter;
        return was;
    }

    int empties(int on) {
        int was = empties;
        if (on < 0 || on > 1) {
            return -1;
        }
        empties = on;
        return was;
    }

    int may(int n) {
        int was = may;
        if (n < 1 || n > 5000) {
            return -2;
        }
        may = n;
        return was;
    }

    private boolean allows(int of, int start, int row) {
        while (so.size() > row - start) {
            so.remove(so.size() - 1);
        }
        so.add(of);
        return !conditions.containsKey(of) || conditions.get(of).at(start, row);
    }

    int holds(int of, int row) {
        if (of < 0 || of > 25 || !isRow(row)) {
            return -1;
        }
        return allows(of, row, row) ? 1 : 0;
    }

    private void tryOne() {
        if (++tried > may) {
            throw new TooMuch();
        }
    }

    private boolean come(Tree tree, int start, int place, Behind behind) {
        if (tree.sort == 3) {
            return comeAll(tree.inner, 0, start, place, behind);
        }
        if (tree.sort == 5) {
            return again(tree, 0, -1, start, place, behind);
        }
        if (tree.sort == 6) {
            return anyOrder(tree.inner, start, place, behind);
        }
        tryOne();
        switch (tree.sort) {
            case 0: return place < rows.size() && allows(tree.letter, start, place) && behind.from(place + 1);
            case 1: return place == 0 && behind.from(place);
            case 2: return place == rows.size() && behind.from(place);
            default:
                for (Tree one : tree.inner) {
                    if (come(one, start, place, behind)) {
                        return true;
                    }
                }
                return false;
        }
    }

    private boolean comeAll(List<Tree> all, int i, int start, int place, Behind behind) {
        return i == all.size() ? behind.from(place)
            : come(all.get(i), start, place, p -> comeAll(all, i + 1, start, p, behind));
    }

    private boolean anyOrder(List<Tree> left, int start, int place, Behind behind) {
        tryOne();
        if (left.isEmpty()) {
            return behind.from(place);
        }
        for (Tree one : left) {
            List<Tree> others = new ArrayList<>(left);
            others.remove(one);
            if (come(one, start, place, p -> anyOrder(others, start, p, behind))) {
                return true;
            }
        }
        return false;
    }

    private boolean again(Tree tree, int k, int began, int start, int place, Behind behind) {
        tryOne();
        if (k > tree.least && place == began) {
            return false;
        }
        Behind once = p -> again(tree, k + 1, place, start, p, behind);
        Tree inner = tree.inner.get(0);
        if (k < tree.least) {
            return come(inner, start, place, once);
        }
        if (tree.most < 100 && k == tree.most) {
            return behind.from(place);
        }
        if (tree.more == 1) {
            return come(inner, start, place, once) || behind.from(place);
        }
        return behind.from(place) || come(inner, start, place, once);
    }

    /** Whether the search ended with a way; null: too much. */
    private Boolean search(int start, Behind end) {
        tried = 0;
        so = new ArrayList<>();
        try {
            return come(pattern, start, start, end);
        } catch (TooMuch e) {
            return null;
        }
    }

    /** The preferred way's letters; null: none, or much (told by tried). */
    private List<Integer> preferred(int start) {
        List<List<Integer>> found = new ArrayList<>();
        search(start, p -> found.add(new ArrayList<>(so.subList(0, p - start))));
        return found.isEmpty() ? null : found.get(0);
    }

    private int wrong(int start) {
        return start < 0 || start > rows.size() ? -1 : pattern == null ? -3 : 0;
    }

    int first(int start) {
        if (wrong(start) != 0) {
            return wrong(start);
        }
        List<Integer> way = preferred(start);
        return tried > may ? -7 : way == null ? -5 : way.size();
    }

    int tries(int start) {
        if (wrong(start) != 0) {
            return wrong(start);
        }
        preferred(start);
        return tried > may ? -7 : tried;
    }

    int way(int start, int i) {
        if (wrong(start) != 0) {
            return wrong(start);
        }
        List<Integer> way = preferred(start);
        return tried > may ? -7 : way == null || i < 0 || i >= way.size() ? -5 : way.get(i);
    }

    private List<Integer> sizes(int start) {
        List<Integer> out = new ArrayList<>();
        return search(start, p -> !out.add(p - start)) == null ? null : out;
    }

    int ways(int start) {
        if (wrong(start) != 0) {
            return wrong(start);
        }
        List<Integer> all = sizes(start);
        return all == null ? -7 : all.size();
    }

    int spans(int start, int what) {
        if (wrong(start) == -1 || what < 0 || what > 1) {
            return -1;
        }
        if (pattern == null) {
            return -3;
        }
        List<Integer> all = sizes(start);
        if (all == null) {
            return -7;
        }
        return all.stream().mapToInt(n -> n).reduce(what == 0 ? Math::min : Math::max).orElse(-5);
    }

    int fits(int start, int end) {
        if (wrong(start) == -1 || end < 0 || end > rows.size() || end < start) {
            return -1;
        }
        if (pattern == null) {
            return -3;
        }
        Boolean found = search(start, p -> p == end);
        return found == null ? -7 : found ? 1 : 0;
    }

    int run() {
        if (pattern == null) {
            return -3;
        }
        List<Match> fresh = new ArrayList<>();
        int start = 0;
        while (start <= rows.size()) {
            List<Integer> way = preferred(start);
            if (tried > may) {
                return -7;
            }
            int next = start + 1;
            if (way != null && (!way.isEmpty() || empties == 1)) {
                fresh.add(new Match(start, way));
                int to = mode == 0 ? way.size() : mode == 1 ? 1 : mode == 2 ? way.indexOf(letter) : way.lastIndexOf(letter);
                next = Math.max(next, start + to);
            }
            start = next;
        }
        matches = fresh;
        return fresh.size();
    }

    private boolean isMatch(int match) {
        return match >= 0 && match < matches.size();
    }

    int match(int match, int what) {
        if (!isMatch(match) || what < 0 || what > 3) {
            return -1;
        }
        Match m = matches.get(match);
        int bits = 0;
        for (int one : m.letters) {
            bits |= 1 << one;
        }
        return what == 0 ? m.start : what == 1 ? m.letters.size() : what == 2 ? Integer.bitCount(bits) : bits;
    }

    int label(int match, int row) {
        if (!isMatch(match) || !isRow(row)) {
            return -1;
        }
        Integer of = matches.get(match).letter(row);
        return of == null ? -5 : of;
    }

    private static boolean measureBad(int of, int column, int measure) {
        return of < 0 || of > 26 || column < 0 || column > 1 || measure < 0 || measure > 6;
    }

    long measure(int match, int of, int column, int measure) {
        if (!isMatch(match) || measureBad(of, column, measure)) {
            return NO;
        }
        int count = 0;
        List<Integer> all = new ArrayList<>();
        for (int row = 0; row < rows.size(); row++) {
            Integer has = matches.get(match).letter(row);
            if (has != null && (of == 26 || has == of)) {
                count++;
                if (number(row, column) != null) {
                    all.add(number(row, column));
                }
            }
        }
        int sum = all.stream().mapToInt(n -> n).sum();
        if (measure < 2) {
            return measure == 0 ? count : sum;
        }
        if (all.isEmpty()) {
            return NO;
        }
        switch (measure) {
            case 2: return all.stream().mapToInt(n -> n).min().getAsInt();
            case 3: return all.stream().mapToInt(n -> n).max().getAsInt();
            case 4: return all.get(0);
            case 5: return all.get(all.size() - 1);
            default: return (long) Math.floor((double) sum / all.size());
        }
    }

    int covered(int row) {
        return isRow(row) ? (int) matches.stream().filter(m -> m.letter(row) != null).count() : -1;
    }

    int told(int what) {
        int none = 0;
        for (int row = 0; row < rows.size(); row++) {
            none += covered(row) == 0 ? 1 : 0;
        }
        int bits = conditions.keySet().stream().mapToInt(n -> 1 << n).sum();
        int[] all = {rows.size(), parts.size(), matches.size(), mode, letter, empties, may, bits, none, tape.length()};
        return what < 0 || what > 9 ? -1 : all[what];
    }

    private static boolean isList(int list) {
        return list >= 0 && list < 4;
    }

    int list(int list, int n) {
        if (!isList(list) || n > 40 || n < 0) {
            return !isList(list) ? -1 : n < 0 ? -14 : -2;
        }
        lists[list] = new long[n];
        return 1;
    }

    private boolean isPlace(int list, long i) {
        return i >= 0 && i < lists[list].length;
    }

    int put(int list, int i, long v) {
        if (!isList(list) || lists[list] == null || !isPlace(list, i)) {
            return !isList(list) ? -1 : lists[list] == null ? -11 : -13;
        }
        lists[list][i] = v;
        return 1;
    }

    long get(int list, int i) {
        return !isList(list) || lists[list] == null || !isPlace(list, i) ? NO : lists[list][i];
    }

    int move(int list, int i, int other, int j, int n) {
        if (!isList(list) || !isList(other)) {
            return -1;
        }
        if (lists[list] == null || lists[other] == null) {
            return -11;
        }
        if (n < 0 || i < 0 || j < 0 || (long) i + n > lists[list].length || (long) j + n > lists[other].length) {
            return -13;
        }
        long[] before = lists[list].clone();
        for (int k = 0; k < n; k++) {
            lists[other][j + k] = before[i + k];
        }
        return n;
    }

    int lay(int list, int i, int of, int column, int measure) {
        if (!isList(list) || measureBad(of, column, measure)) {
            return -1;
        }
        if (lists[list] == null) {
            return -11;
        }
        int m = 0;
        while (m < matches.size() && isPlace(list, (long) i + m)) {
            lists[list][i + m] = measure(m, of, column, measure);
            m++;
        }
        return m < matches.size() ? -13 : m;
    }

    int judge(int list, int i, int of, int column, int measure) {
        if (!isList(list) || measureBad(of, column, measure)) {
            return -1;
        }
        if (lists[list] == null) {
            return -11;
        }
        for (int m = 0; m < matches.size(); m++) {
            if (!isPlace(list, (long) i + m)) {
                return 100 + m;
            }
            if (lists[list][i + m] != measure(m, of, column, measure)) {
                return m;
            }
        }
        return -5;
    }

    int image() {
        List<Integer[]> copy = new ArrayList<>(rows);
        image = new Image(copy, conditions, pattern, parts, mode, letter, empties, may, matches);
        return rows.size();
    }

    int undo() {
        if (image == null) {
            return -3;
        }
        rows = new ArrayList<>(image.rows);
        conditions = image.conditions;
        pattern = image.pattern;
        parts = image.parts;
        mode = image.mode;
        letter = image.letter;
        empties = image.empties;
        may = image.may;
        matches = image.matches;
        return rows.size();
    }
}
