import java.io.IOException;
import java.nio.file.Files;
import java.nio.file.Path;

/** What the tests share: counting wrong answers, telling the sentence that a test is for, and feeding texts. */
final class Checks {
    static final int LEAST = Integer.MIN_VALUE, MOST = Integer.MAX_VALUE;
    static final long NO = Long.MIN_VALUE;
    private static final Path DOCUMENT = Path.of("../shared/DOC.md");

    private static int wrong = 0;
    private static int made = 0;
    private static int sentences = 0;
    private static String sentence = "";
    private static String document;

    private Checks() {
    }

    /** The document's sentence that the checks behind this are for; it must stand there word for word. */
    static void says(String words) {
        sentence = words;
        sentences++;
        if (!document().isEmpty()) {
            truth("the document says so", document().contains(plain(words)));
        }
    }

    private static String plain(String text) {
        return text.replaceAll("\\s+", " ");
    }

    private static String document() {
        if (document == null) {
            try {
                document = Files.exists(DOCUMENT) ? plain(Files.readString(DOCUMENT)) : "";
            } catch (IOException e) {
                document = "";
            }
        }
        return document;
    }

    static void due(String what, long got, long want) {
        due(what, String.valueOf(got), String.valueOf(want));
    }

    static void due(String what, String got, String want) {
        made++;
        if (!got.equals(want)) {
            wrong++;
            if (wrong <= 50) {
                String beside = sentence.isEmpty() ? "" : " [" + sentence + "]";
                System.out.println(what + " answered " + got + ", due is " + want + beside);
            }
        }
    }

    static void truth(String what, boolean got) {
        due(what, got ? 1 : 0, 1);
    }

    static void feed(RowPatterns x, String text) {
        for (int i = 0; i < text.length(); i++) {
            x.feed(text.charAt(i));
        }
    }

    static int pattern(RowPatterns x, String text) {
        feed(x, text);
        return x.pattern();
    }

    static int define(RowPatterns x, String text) {
        feed(x, text);
        return x.define();
    }

    static String paper(RowPatterns x) {
        StringBuilder out = new StringBuilder();
        for (int i = 0; x.paper(i) >= 0; i++) {
            out.append((char) x.paper(i));
        }
        return out.toString();
    }

    static String spelled(RowPatterns x) {
        int size = x.spell();
        String out = paper(x);
        due("spell()'s answer for " + out, size, out.length());
        return out;
    }

    /** Rows with these X, and Y from 0 up. */
    static RowPatterns rows(int... xs) {
        RowPatterns x = new RowPatterns();
        for (int i = 0; i < xs.length; i++) {
            x.row(xs[i], i);
        }
        return x;
    }

    /** So many rows with X from 0 up, and a pattern. */
    static RowPatterns table(int size, String pattern) {
        RowPatterns x = new RowPatterns();
        for (int i = 0; i < size; i++) {
            x.row(i, i);
        }
        due("pattern " + pattern, pattern(x, pattern) > 0 ? 1 : 0, 1);
        return x;
    }

    static String preferred(RowPatterns x, int start) {
        int size = x.first(start);
        if (size < 0) {
            return String.valueOf(size);
        }
        StringBuilder out = new StringBuilder();
        for (int i = 0; i < size; i++) {
            out.append((char) ('A' + x.way(start, i)));
        }
        due("way behind the last row", x.way(start, size), -5);
        return out.toString();
    }

    /** Runs, and tells each match by its start and how many rows it has. */
    static String matches(RowPatterns x) {
        StringBuilder out = new StringBuilder();
        int n = x.run();
        for (int m = 0; m < n; m++) {
            out.append(m > 0 ? " " : "").append(x.match(m, 0)).append('+').append(x.match(m, 1));
        }
        return out.toString();
    }

    /** So many longs of a list, from its first place on. */
    static String longs(RowPatterns x, int list, int size) {
        StringBuilder out = new StringBuilder();
        for (int i = 0; i < size; i++) {
            out.append(i > 0 ? " " : "").append(x.get(list, i));
        }
        return out.toString();
    }

    /** Prints what came out, and ends the program. */
    static void end() {
        String told = sentences == 0 ? "" : ", " + sentences + " sentences";
        System.out.println(wrong == 0 ? made + " answers are as due" + told : wrong + " of " + made + " answers are not as due");
        System.exit(wrong == 0 ? 0 : 1);
    }
}
