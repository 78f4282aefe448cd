import java.util.ArrayList;
import java.util.List;

/** A pattern as a tree, read from a text without a fault by cutting it where its parts end. */
final class Tree {
    final int sort;
    final int letter;
    final List<Tree> inner = new ArrayList<>();
    int least = -5;
    int most = -5;
    int more = -5;
    int number;
    Tree within;

    private Tree(int sort, int letter) {
        this.sort = sort;
        this.letter = letter;
    }

    static Tree read(String text) {
        return joined(4, cut(text, '|'));
    }

    private static Tree joined(int sort, List<String> texts) {
        List<Tree> trees = new ArrayList<>();
        for (String text : texts) {
            trees.add(sort == 4 ? joined(3, pieces(text)) : sort == 3 ? piece(text) : read(text));
        }
        if (trees.size() == 1) {
            return trees.get(0);
        }
        Tree tree = new Tree(sort, -5);
        tree.inner.addAll(trees);
        return tree;
    }

    /** The texts between such signs that stand in no brackets. */
    private static List<String> cut(String text, char sign) {
        List<String> out = new ArrayList<>();
        int depth = 0;
        int begin = 0;
        for (int i = 0; i < text.length(); i++) {
            char c = text.charAt(i);
            depth += c == '(' || c == '{' ? 1 : c == ')' || c == '}' ? -1 : 0;
            if (depth == 0 && c == sign) {
                out.add(text.substring(begin, i));
                begin = i + 1;
            }
        }
        out.add(text.substring(begin));
        return out;
    }

    private static int close(String text, int open) {
        int depth = 0;
        for (int i = open; i < text.length(); i++) {
            depth += text.charAt(i) == '(' ? 1 : text.charAt(i) == ')' ? -1 : 0;
            if (depth == 0) {
                return i;
            }
        }
        throw new IllegalStateException(text);
    }

    private static int atomEnd(String text, int begin) {
        char c = text.charAt(begin);
        return c == '(' ? close(text, begin) + 1 : c == '%' ? close(text, begin + 1) + 1 : begin + 1;
    }

    private static List<String> pieces(String text) {
        List<String> out = new ArrayList<>();
        int begin = 0;
        while (begin < text.length()) {
            int end = atomEnd(text, begin);
            while (end < text.length() && "*+?{}0123456789,".indexOf(text.charAt(end)) >= 0) {
                end++;
            }
            out.add(text.substring(begin, end));
            begin = end;
        }
        return out;
    }

    private static Tree piece(String text) {
        int end = atomEnd(text, 0);
        char c = text.charAt(0);
        Tree atom;
        if (c == '(') {
            atom = read(text.substring(1, end - 1));
        } else if (c == '%') {
            atom = joined(6, cut(text.substring(2, end - 1), ','));
        } else {
            atom = new Tree(c == '^' ? 1 : c == '$' ? 2 : 0, c == '^' || c == '$' ? -5 : c - 'A');
        }
        String times = text.substring(end);
        if (times.isEmpty()) {
            return atom;
        }
        Tree tree = new Tree(5, -5);
        tree.inner.add(atom);
        tree.more = times.length() > 1 && times.endsWith("?") ? 0 : 1;
        switch (times.charAt(0)) {
            case '*': tree.least = 0; tree.most = 100; break;
            case '+': tree.least = 1; tree.most = 100; break;
            case '?': tree.least = 0; tree.most = 1; break;
            default:
                String[] two = times.substring(1, times.indexOf('}')).split(",", -1);
                tree.least = Integer.parseInt(two[0]);
                tree.most = two.length == 1 ? tree.least : two[1].isEmpty() ? 100 : Integer.parseInt(two[1]);
        }
        return tree;
    }

    /** The parts in the order of their numbers. */
    List<Tree> numbered() {
        List<Tree> out = new ArrayList<>();
        number(out);
        return out;
    }

    private void number(List<Tree> out) {
        for (Tree tree : inner) {
            tree.within = this;
            tree.number(out);
        }
        number = out.size();
        out.add(this);
    }

    int fact(int what) {
        switch (what) {
            case 0: return sort;
            case 1: return letter;
            case 2: return inner.size();
            case 3: return least;
            case 4: return most;
            case 5: return more;
            case 6: return within == null ? -5 : within.number;
            default: return -1;
        }
    }

    /** With every bracket that may stand; equal for equal trees alone. */
    String full() {
        StringBuilder out = new StringBuilder();
        for (Tree tree : inner) {
            if (out.length() > 0) {
                out.append(sort == 4 ? "|" : sort == 6 ? "," : "");
            }
            out.append('(').append(tree.full()).append(')');
        }
        switch (sort) {
            case 0: return String.valueOf((char) ('A' + letter));
            case 1: return "^";
            case 2: return "$";
            case 5: return out + times();
            case 6: return "%(" + out + ")";
            default: return out.toString();
        }
    }

    private String times() {
        String told = "{" + least + "," + (most == 100 ? "" : most) + "}";
        told = told.equals("{0,}") ? "*" : told.equals("{1,}") ? "+" : told.equals("{0,1}") ? "?" : told;
        told = least == most ? "{" + least + "}" : told;
        return more == 0 ? told + "?" : told;
    }

    /** Takes brackets away as long as the same tree is read without them. */
    String spelled() {
        Grammar loose = new Grammar(1000);
        String whole = full();
        String text = whole;
        for (int i = 0; i < text.length(); i++) {
            while (i < text.length() && text.charAt(i) == '(' && (i == 0 || text.charAt(i - 1) != '%')) {
                int end = close(text, i);
                String less = text.substring(0, i) + text.substring(i + 1, end) + text.substring(end + 1);
                if (loose.patternFault(less) >= 0 || !read(less).full().equals(whole)) {
                    break;
                }
                text = less;
            }
        }
        return text;
    }
}
