import java.util.Random;

/** Texts of patterns and conditions by chance: many without a fault, some with a sign too many, too few or another. */
final class Texts {
    private final Random chance;

    Texts(Random chance) {
        this.chance = chance;
    }

    private int below(int n) {
        return chance.nextInt(n);
    }

    String pattern() {
        String text = below(12) == 0 ? loose("AB^$()*+?{}%,|0123", 14) : choice(below(5), 0);
        return spoiled(text, "ABCZ^$()*+?{}%,|0129a ");
    }

    String conditions() {
        StringBuilder out = new StringBuilder();
        for (int i = below(3); i >= 0; i--) {
            out.append(out.length() > 0 ? ";" : "").append(letter()).append('=');
            if (below(6) > 0) {
                out.append(either(below(5)));
            }
        }
        String text = below(15) == 0 ? "A=" + loose("xypnflscAB<=>!()&|;-019", 10) : out.toString();
        return spoiled(text, "xypnflscAB<=>!()&|;-0129aZ ");
    }

    private String loose(String signs, int most) {
        StringBuilder out = new StringBuilder();
        for (int i = below(most); i >= 0; i--) {
            out.append(signs.charAt(below(signs.length())));
        }
        return out.toString();
    }

    private String spoiled(String text, String signs) {
        String out = text;
        if (below(5) == 0 && !out.isEmpty()) {
            int at = below(out.length());
            String sign = below(3) == 0 ? "" : String.valueOf(signs.charAt(below(signs.length())));
            out = out.substring(0, at) + sign + out.substring(at + below(2));
        }
        if (below(25) == 0) {
            out = out.substring(0, below(out.length() + 1));
        }
        return out.length() > 120 ? out.substring(0, 120) : out;
    }

    private char letter() {
        return "ABCD".charAt(below(4));
    }

    private String choice(int size, int depth) {
        StringBuilder out = new StringBuilder(sequence(size, depth));
        for (int i = below(4) == 0 ? 1 + below(2) : 0; i > 0; i--) {
            out.append('|').append(sequence(size, depth));
        }
        return out.toString();
    }

    private String sequence(int size, int depth) {
        StringBuilder out = new StringBuilder(piece(size, depth));
        for (int i = below(3); i > 0; i--) {
            out.append(piece(size - 1, depth));
        }
        return out.toString();
    }

    private String piece(int size, int depth) {
        String atom = String.valueOf(letter());
        int kind = below(10);
        if (size > 0 && kind < 5) {
            atom = "(" + choice(size - 1, depth + 1) + ")";
        } else if (size > 0 && kind == 5) {
            StringBuilder out = new StringBuilder("%(").append(choice(size - 1, depth + 1));
            for (int i = 1 + below(3); i > 0; i--) {
                out.append(',').append(choice(size - 2, depth + 1));
            }
            atom = out.append(')').toString();
        } else if (kind == 6) {
            atom = below(2) == 0 ? "^" : "$";
        }
        return atom + (below(5) < 2 ? times() : "");
    }

    private String times() {
        String lazy = below(3) == 0 ? "?" : "";
        switch (below(6)) {
            case 0: return "*" + lazy;
            case 1: return "+" + lazy;
            case 2: return "?" + lazy;
            case 3: return "{" + figures(1 + below(3)) + "}" + lazy;
            case 4: return "{" + figures(below(3)) + ",}" + lazy;
            default:
                int least = below(3);
                int most = least + below(3);
                if (below(20) == 0) {
                    most += below(60);
                    least += below(40);
                }
                return "{" + figures(least) + "," + figures(most) + "}" + lazy;
        }
    }

    private String figures(int n) {
        return n < 10 && below(8) == 0 ? "0" + n : String.valueOf(n);
    }

    private String either(int size) {
        StringBuilder out = new StringBuilder(both(size));
        for (int i = below(5) == 0 ? 1 : 0; i > 0; i--) {
            out.append('|').append(both(size));
        }
        return out.toString();
    }

    private String both(int size) {
        StringBuilder out = new StringBuilder(factor(size));
        for (int i = below(5) == 0 ? 1 : 0; i > 0; i--) {
            out.append('&').append(factor(size - 1));
        }
        return out.toString();
    }

    private String factor(int size) {
        int kind = below(5);
        if (size > 0 && kind == 0) {
            return "!" + factor(size - 1);
        }
        if (size > 0 && kind == 1) {
            return "(" + either(size - 1) + ")";
        }
        return operand() + "<=>".charAt(below(3)) + operand();
    }

    private String operand() {
        String column = below(3) == 0 ? "y" : "x";
        switch (below(9)) {
            case 0:
            case 1: return column;
            case 2: return "p" + column;
            case 3: return "n" + column;
            case 4: return "f" + letter() + column;
            case 5: return "l" + letter() + column;
            case 6: return "s" + letter() + column;
            case 7: return "c" + letter();
            default: return (below(4) == 0 ? "-" : "") + (below(10) == 0 ? String.valueOf(below(1001)) : String.valueOf(below(9)));
        }
    }
}
