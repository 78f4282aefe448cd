import java.util.Random;

/** Long rows of calls chosen by a fixed seed: the class answers as the model does. */
public final class ModelTest {
    private static final int OBJECTS = 3000, CALLS = 512, LONGEST = 122;
    private final Random chance;
    private final Texts texts;
    private RowPatterns x = new RowPatterns();
    private Model y = new Model();
    private int calls;
    private String latest = "";

    private ModelTest(long seed) {
        chance = new Random(seed);
        texts = new Texts(chance);
    }

    public static void main(String[] args) {
        int objects = args.length > 0 ? Integer.parseInt(args[0]) : OBJECTS;
        long seed = args.length > 1 ? Long.parseLong(args[1]) : 1;
        for (int i = 0; i < objects; i++) {
            new ModelTest(seed * 1000003 + i).object();
        }
        Checks.end();
    }

    private void due(String call, long got, long want) {
        calls++;
        Checks.due(call + " behind the text " + latest, got, want);
    }

    private int below(int n) {
        return chance.nextInt(n);
    }

    /** Mostly 0 .. n, now and then far from it. */
    private int some(int n) {
        int kind = below(40);
        return kind == 0 ? Integer.MAX_VALUE - below(3) : kind == 1 ? Integer.MIN_VALUE + below(3)
            : kind == 2 ? -1 : kind == 3 ? n + 1 + below(3) : below(n + 1);
    }

    private int number() {
        int kind = below(60);
        return kind == 0 ? 1001 : kind == 1 ? -1000 : kind == 2 ? 999 : kind == 3 ? -999
            : kind < 12 ? 1000 : below(12) - 2;
    }

    private void object() {
        int want = below(6) == 0 ? 31 : 9;
        for (int i = below(want + 1); i >= 0; i--) {
            row();
        }
        if (below(3) > 0) {
            text(texts.pattern(), true);
        }
        // A text of 120 bytes, told and read, is the longest row of calls at once.
        while (calls <= CALLS - LONGEST) {
            call();
        }
    }

    private void row() {
        int a = number();
        int b = number();
        due("row(" + a + ", " + b + ")", x.row(a, b), y.row(a, b));
    }

    private void text(String text, boolean pattern) {
        latest = text;
        for (int i = 0; i < text.length(); i++) {
            due("feed", x.feed(text.charAt(i)), y.feed(text.charAt(i)));
        }
        if (below(30) == 0) {
            due("told(9)", x.told(9), y.told(9));
        }
        if (pattern) {
            due("pattern() of " + text, x.pattern(), y.pattern());
        } else {
            due("define() of " + text, x.define(), y.define());
        }
    }

    private void call() {
        int kind = below(100);
        if (kind < 8) {
            table();
        } else if (kind < 14) {
            boolean pattern = below(2) == 0;
            text(pattern ? texts.pattern() : texts.conditions(), pattern);
        } else if (kind < 24) {
            parts();
        } else if (kind < 32) {
            settings();
        } else if (kind < 55) {
            searches();
        } else if (kind < 80) {
            found();
        } else if (kind < 96) {
            lists();
        } else {
            images();
        }
    }

    private void images() {
        if (below(2) == 0) {
            due("image()", x.image(), y.image());
        } else {
            due("undo()", x.undo(), y.undo());
        }
    }

    private void table() {
        int a = number();
        int b = number();
        int row = some(9);
        switch (below(5)) {
            case 0: row(); break;
            case 1: due("set(" + row + ", " + a + ", " + b + ")", x.set(row, a, b), y.set(row, a, b)); break;
            case 2: due("drop()", x.drop(), y.drop()); break;
            case 3: due("cell(" + row + ", 0)", x.cell(row, 0), y.cell(row, 0)); break;
            default:
                int column = some(1);
                due("cell(" + row + ", " + column + ")", x.cell(row, column), y.cell(row, column));
        }
    }

    private void parts() {
        int part = some(12);
        switch (below(8)) {
            case 0: due("spell()", x.spell(), y.spell()); break;
            case 1:
            case 2:
                int i = some(20);
                due("paper(" + i + ")", x.paper(i), y.paper(i));
                break;
            case 3:
                int sign = some(140);
                due("feed(" + sign + ")", x.feed(sign), y.feed(sign));
                due("clear()", x.clear(), y.clear());
                break;
            default:
                int what = some(6);
                due("part(" + part + ", " + what + ")", x.part(part, what), y.part(part, what));
        }
    }

    private void settings() {
        int a = some(3);
        int b = below(2) == 0 ? some(3) : some(25);
        switch (below(5)) {
            case 0: due("mode(" + a + ", " + b + ")", x.mode(a, b), y.mode(a, b)); break;
            case 1:
                int on = some(1);
                due("empties(" + on + ")", x.empties(on), y.empties(on));
                break;
            case 2:
                int n = below(3) == 0 ? some(5000) : below(2) == 0 ? some(60) : 5000;
                due("may(" + n + ")", x.may(n), y.may(n));
                break;
            default:
                int what = some(9);
                due("told(" + what + ")", x.told(what), y.told(what));
        }
    }

    private void searches() {
        int start = below(2) == 0 ? below(3) : some(10);
        int i = some(10);
        int which = below(9);
        switch (which) {
            case 0: due("first(" + start + ")", x.first(start), y.first(start)); break;
            case 1: due("tries(" + start + ")", x.tries(start), y.tries(start)); break;
            case 2: due("way(" + start + ", " + i + ")", x.way(start, i), y.way(start, i)); break;
            case 3: due("ways(" + start + ")", x.ways(start), y.ways(start)); break;
            case 4:
                int what = some(1);
                due("spans(" + start + ", " + what + ")", x.spans(start, what), y.spans(start, what));
                break;
            case 5: due("fits(" + start + ", " + i + ")", x.fits(start, i), y.fits(start, i)); break;
            case 6:
                int of = below(2) == 0 ? some(3) : some(25);
                due("holds(" + of + ", " + i + ")", x.holds(of, i), y.holds(of, i));
                break;
            default: due("run()", x.run(), y.run());
        }
    }

    private void found() {
        int m = below(2) == 0 ? below(3) : some(8);
        int a = some(9);
        int of = below(2) == 0 ? some(3) : below(2) == 0 ? 26 : some(26);
        int column = some(1);
        int measure = some(6);
        switch (below(6)) {
            case 0:
            case 1:
                int what = some(3);
                due("match(" + m + ", " + what + ")", x.match(m, what), y.match(m, what));
                break;
            case 2: due("label(" + m + ", " + a + ")", x.label(m, a), y.label(m, a)); break;
            case 3: due("covered(" + a + ")", x.covered(a), y.covered(a)); break;
            default:
                due("measure(" + m + ", " + of + ", " + column + ", " + measure + ")",
                    x.measure(m, of, column, measure), y.measure(m, of, column, measure));
        }
    }

    private void lists() {
        int list = some(3);
        int other = some(3);
        int i = some(9);
        int of = below(2) == 0 ? some(3) : 26;
        int measure = some(6);
        int column = some(1);
        switch (below(8)) {
            case 0:
                int n = below(5) == 0 ? some(40) : some(9);
                due("list(" + list + ", " + n + ")", x.list(list, n), y.list(list, n));
                break;
            case 1:
                long v = chance.nextInt(4) == 0 ? chance.nextLong() : below(5);
                due("put(" + list + ", " + i + ", " + v + ")", x.put(list, i, v), y.put(list, i, v));
                break;
            case 2:
                int j = some(9);
                int size = below(2) == 0 ? below(4) : some(9);
                due("move", x.move(list, i, other, j, size), y.move(list, i, other, j, size));
                break;
            case 3:
                int at = below(2) == 0 ? 0 : i;
                due("lay", x.lay(list, at, of, column, measure), y.lay(list, at, of, column, measure));
                due("judge", x.judge(list, at, of, column, measure), y.judge(list, at, of, column, measure));
                break;
            case 4: due("judge", x.judge(list, i, of, column, measure), y.judge(list, i, of, column, measure)); break;
            default: due("get(" + list + ", " + i + ")", x.get(list, i), y.get(list, i));
        }
    }
}
