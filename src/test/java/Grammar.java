import java.util.ArrayDeque;
import java.util.Deque;
import java.util.LinkedHashSet;
import java.util.Set;

/**
 * Where a text has its fault, found by walking a grammar sign by sign with every row of symbols that may still come:
 * the first sign with which none goes on is the fault.
 */
final class Grammar {
    /** A row of symbols: the first, and those behind it. */
    private record Row(String first, Row behind) {
        static Row of(Row behind, String... symbols) {
            Row row = behind;
            for (int i = symbols.length - 1; i >= 0; i--) {
                row = new Row(symbols[i], row);
            }
            return row;
        }
    }

    private final int brackets;

    /** Brackets within as many others, and one more, are none. */
    Grammar(int brackets) {
        this.brackets = brackets;
    }

    int patternFault(String text) {
        return fault(text, "P0");
    }

    int conditionsFault(String text) {
        return fault(text, "CS");
    }

    /** -1: none. */
    private int fault(String text, String start) {
        Set<Row> rows = new LinkedHashSet<>();
        rows.add(new Row(start, null));
        int place = 0;
        while (true) {
            Set<Row> open = opened(rows);
            if (place == text.length()) {
                return open.contains(null) ? -1 : place;
            }
            Set<Row> next = new LinkedHashSet<>();
            int taken = 1;
            for (Row row : open) {
                if (row == null) {
                    continue;
                }
                if (row.first.startsWith("NUM")) {
                    int figures = 0;
                    while (figures < 2 && place + figures < text.length() && figure(text.charAt(place + figures))) {
                        figures++;
                    }
                    if (figures == 0) {
                        continue;
                    }
                    int n = Integer.parseInt(text.substring(place, place + figures));
                    taken = figures;
                    if (row.first.equals("NUMLEAST")) {
                        next.add(Row.of(row.behind, "BEHIND" + n));
                    } else if (n == 0 || n < Integer.parseInt(row.first.substring(7))) {
                        return place;
                    } else {
                        next.add(row.behind);
                    }
                } else if (row.first.substring(1).indexOf(text.charAt(place)) >= 0) {
                    next.add(row.behind);
                }
            }
            if (next.isEmpty()) {
                return place;
            }
            rows = next;
            place += taken;
        }
    }

    private static boolean figure(char c) {
        return c >= '0' && c <= '9';
    }

    /** Until each row begins with signs ('signs) or a number. */
    private Set<Row> opened(Set<Row> rows) {
        Set<Row> out = new LinkedHashSet<>();
        Deque<Row> left = new ArrayDeque<>();
        boolean ends = false;
        for (Row row : rows) {
            if (row == null) {
                ends = true;
            } else {
                left.add(row);
            }
        }
        while (!left.isEmpty()) {
            Row row = left.remove();
            if (row.first.startsWith("'") || row.first.startsWith("NUM")) {
                out.add(row);
                continue;
            }
            for (String way : ways(row.first)) {
                Row next = way.isEmpty() ? row.behind : Row.of(row.behind, way.split(" "));
                if (next == null) {
                    ends = true;
                } else {
                    left.add(next);
                }
            }
        }
        if (ends) {
            out.add(null);
        }
        return out;
    }

    private static final String LETTER = "'ABCDEFGHIJKLMNOPQRSTUVWXYZ";
    private static final String FIGURE = "'0123456789";

    private String[] ways(String symbol) {
        int at = 0;
        while (at < symbol.length() && !figure(symbol.charAt(at))) {
            at++;
        }
        String name = symbol.substring(0, at);
        int d = at < symbol.length() ? Integer.parseInt(symbol.substring(at)) : 0;
        int e = d + 1;
        switch (name) {
            // Every symbol is told so that one sign decides, or the rows would become too many: Xmore is what may follow X.
            case "P": return new String[] {"Q" + d + " Pmore" + d};
            case "Pmore": return new String[] {"", "'| P" + d};
            case "Q": return new String[] {"R" + d + " Qmore" + d};
            case "Qmore": return new String[] {"", "Q" + d};
            case "R": return new String[] {"ATOM" + d + " TIMES"};
            case "ATOM":
                return d >= brackets ? new String[] {LETTER, "'^$"}
                    : new String[] {LETTER, "'^$", "'( P" + e + " ')", "'% '( P" + e + " ', P" + e + " THIRD" + e};
            case "THIRD": return new String[] {"')", "', P" + d + " FOURTH" + d};
            case "FOURTH": return new String[] {"')", "', P" + d + " ')"};
            case "TIMES": return new String[] {"", "'*+? LESS", "'{ NUMLEAST LESS"};
            case "LESS": return new String[] {"", "'?"};
            case "BEHIND":
                return d == 0 ? new String[] {"', MOST" + d} : new String[] {"'}", "', MOST" + d};
            case "MOST": return new String[] {"'}", "NUMMOST" + d + " '}"};
            case "CS": return new String[] {"PART CSmore"};
            case "CSmore": return new String[] {"", "'; CS"};
            case "PART": return new String[] {LETTER + " '= Cmaybe"};
            case "Cmaybe": return new String[] {"", "C0"};
            case "C": return new String[] {"D" + d + " Cmore" + d};
            case "Cmore": return new String[] {"", "'| C" + d};
            case "D": return new String[] {"F" + d + " Dmore" + d};
            case "Dmore": return new String[] {"", "'& D" + d};
            case "F":
                return d >= 4 ? new String[] {"TEST"}
                    : new String[] {"TEST", "'! F" + e, "'( C" + e + " ')"};
            case "TEST": return new String[] {"OPERAND '<=> OPERAND"};
            case "OPERAND":
                return new String[] {"NAT", "'- NAT", "'xy", "'pn 'xy", "'fls " + LETTER + " 'xy", "'c " + LETTER};
            case "NAT": return new String[] {FIGURE + " NATsecond"};
            case "NATsecond": return new String[] {"", FIGURE + " NATthird"};
            case "NATthird": return new String[] {"", FIGURE};
            default: throw new IllegalStateException(symbol);
        }
    }
}
