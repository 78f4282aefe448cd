/** What the tests share: counting wrong answers, and feeding texts. */
final class Checks {
    private static int wrong = 0;
    private static int made = 0;

    private Checks() {
    }

    static void due(String what, long got, long want) {
        made++;
        if (got != want) {
            wrong++;
            if (wrong <= 50) {
                System.out.println(what + " answered " + got + ", due is " + want);
            }
        }
    }

    static void due(String what, String got, String want) {
        made++;
        if (!got.equals(want)) {
            wrong++;
            if (wrong <= 50) {
                System.out.println(what + " answered " + got + ", due is " + want);
            }
        }
    }

    static void truth(String what, boolean got) {
        due(what, got ? 1 : 0, 1);
    }

    static void feed(RowPatterns x, String text) {
        for (int i = 0; i < text.length(); i++) {
            x.feed(text.charAt(i));
        }
    }

    static int pattern(RowPatterns x, String text) {
        feed(x, text);
        return x.pattern();
    }

    static int define(RowPatterns x, String text) {
        feed(x, text);
        return x.define();
    }

    static String paper(RowPatterns x) {
        StringBuilder out = new StringBuilder();
        for (int i = 0; x.paper(i) >= 0; i++) {
            out.append((char) x.paper(i));
        }
        return out.toString();
    }

    static String spelled(RowPatterns x) {
        int size = x.spell();
        String out = paper(x);
        due("spell()'s answer for " + out, size, out.length());
        return out;
    }

    /** Rows with these X, and Y from 0 up. */
    static RowPatterns rows(int... xs) {
        RowPatterns x = new RowPatterns();
        for (int i = 0; i < xs.length; i++) {
            x.row(xs[i], i);
        }
        return x;
    }

    static String preferred(RowPatterns x, int start) {
        int size = x.first(start);
        if (size < 0) {
            return String.valueOf(size);
        }
        StringBuilder out = new StringBuilder();
        for (int i = 0; i < size; i++) {
            out.append((char) ('A' + x.way(start, i)));
        }
        due("way behind the last row", x.way(start, size), -5);
        return out.toString();
    }

    /** Prints what came out, and ends the program. */
    static void end() {
        System.out.println(wrong == 0 ? made + " answers are as due" : wrong + " of " + made + " answers are not as due");
        System.exit(wrong == 0 ? 0 : 1);
    }
}
