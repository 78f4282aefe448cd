/** The paragraph "Answers": what comes first, what changes nothing; and THE IMAGE. Beside each test its sentence. */
public final class AnswerEdgesTest {
    private static final int[] ENDS = {Checks.LEAST, Checks.LEAST + 1, Checks.MOST - 1, Checks.MOST};

    private interface Call {
        long of(RowPatterns x);
    }

    private interface Maker {
        RowPatterns make();
    }

    public static void main(String[] args) {
        constants();
        refusedNumbers();
        refusedEnds();
        refusedOfLists();
        refusedOfMatches();
        refusedTooMuch();
        refusedWhenFull();
        refusedWithoutAny();
        askedChangesNothing();
        spellingChangesThePaper();
        faultEmptiesTheTape();
        firstThatIsNamed();
        imageKeeps();
        imageLeavesOut();
        imageOfTheEmpty();
        imageOfTheFull();
        imageIsTheLatest();
        imageIsNotChanged();
        matchesOfTheImage();
        withoutAnImage();
        Checks.end();
    }

    private static void due(String what, long got, long want) {
        Checks.due(what, got, want);
    }

    /** Some of everything: an image, and a situation that is another. */
    private static RowPatterns rich() {
        RowPatterns x = new RowPatterns();
        x.row(4, 1000);
        x.row(5, 2);
        Checks.pattern(x, "C|D");
        Checks.define(x, "D=x=9");
        x.mode(1, 3);
        x.may(77);
        x.run();
        x.image();
        x.row(6, -3);
        x.mode(2, 1);
        x.empties(0);
        x.may(100);
        Checks.pattern(x, "AB?");
        Checks.define(x, "B=x>px;D=");
        x.list(0, 3);
        x.put(0, 0, 7);
        x.put(0, 2, -8);
        x.list(1, 0);
        x.list(2, 40);
        x.spell();
        x.run();
        Checks.feed(x, "A*B");
        return x;
    }

    private static final int RICH_CALLS = 60;

    /** The call is answered so, and what later calls show is as if it had not been made. */
    private static void changesNothing(String name, Maker maker, Call call, long want) {
        RowPatterns x = maker.make();
        due(name, call.of(x), want);
        Checks.due("what is shown behind " + name, Shown.of(x, RICH_CALLS), Shown.of(maker.make(), RICH_CALLS));
    }

    private static void refused(String name, long want, Call call) {
        changesNothing(name, AnswerEdgesTest::rich, call, want);
    }

    private static void constants() {
        Checks.says("Answers: NONE (-1) no such number; BAD (-2) a number is not as told; STATE (-3) as told; FULL (-4); MUCH (-7);");
        due("NONE", RowPatterns.NONE, -1);
        due("BAD", RowPatterns.BAD, -2);
        due("STATE", RowPatterns.STATE, -3);
        due("FULL", RowPatterns.FULL, -4);
        due("MUCH", RowPatterns.MUCH, -7);
        Checks.says("`NO = Long.MIN_VALUE`: No such number; nothing to measure.");
        due("NO", RowPatterns.NO, Long.MIN_VALUE);
        due("no such number", new RowPatterns().get(0, 0), Long.MIN_VALUE);
        due("no such number", new RowPatterns().measure(0, 0, 0, 0), Long.MIN_VALUE);
    }

    private static void refusedNumbers() {
        Checks.says("What is answered so changes nothing;");
        refused("row x 1001", -2, x -> x.row(1001, 0));
        refused("row x -1000", -2, x -> x.row(-1000, 0));
        refused("row y 1001", -2, x -> x.row(0, 1001));
        refused("row y -1000", -2, x -> x.row(0, -1000));
        refused("set -1", -1, x -> x.set(-1, 0, 0));
        refused("set 3", -1, x -> x.set(3, 0, 0));
        refused("set x", -2, x -> x.set(0, 1001, 0));
        refused("set y", -2, x -> x.set(0, 0, -1000));
        refused("cell row", -1, x -> x.cell(3, 0));
        refused("cell column", -1, x -> x.cell(0, 2));
        refused("feed 0", -2, x -> x.feed(0));
        refused("feed 128", -2, x -> x.feed(128));
        refused("part", -1, x -> x.part(4, 0));
        refused("part what", -1, x -> x.part(0, 7));
        refused("paper", -1, x -> x.paper(3));
        refused("mode", -1, x -> x.mode(4, 5));
        refused("mode below", -1, x -> x.mode(-1, 5));
        refused("mode letter", -1, x -> x.mode(1, 26));
        refused("mode letter below", -1, x -> x.mode(1, -1));
        refused("empties 2", -1, x -> x.empties(2));
        refused("empties -1", -1, x -> x.empties(-1));
        refused("may 0", -2, x -> x.may(0));
        refused("may 5001", -2, x -> x.may(5001));
        refused("holds letter", -1, x -> x.holds(26, 0));
        refused("holds row", -1, x -> x.holds(0, 3));
        refused("first", -1, x -> x.first(4));
        refused("tries", -1, x -> x.tries(4));
        refused("way", -1, x -> x.way(4, 0));
        refused("way, no such ROW", -5, x -> x.way(0, 9));
        refused("ways", -1, x -> x.ways(4));
        refused("spans", -1, x -> x.spans(4, 0));
        refused("spans what", -1, x -> x.spans(0, 2));
        refused("fits end", -1, x -> x.fits(0, 4));
        refused("fits end below start", -1, x -> x.fits(2, 1));
        refused("told", -1, x -> x.told(10));
    }

    private static void refusedEnds() {
        Checks.says("What is answered so changes nothing;");
        for (int n : ENDS) {
            refused("row " + n, -2, x -> x.row(n, n));
            refused("set " + n, -1, x -> x.set(n, 0, 0));
            refused("set to " + n, -2, x -> x.set(0, n, n));
            refused("cell " + n, -1, x -> x.cell(n, n));
            refused("feed " + n, -2, x -> x.feed(n));
            refused("part " + n, -1, x -> x.part(n, n));
            refused("paper " + n, -1, x -> x.paper(n));
            refused("mode " + n, -1, x -> x.mode(n, n));
            refused("empties " + n, -1, x -> x.empties(n));
            refused("may " + n, -2, x -> x.may(n));
            refused("holds " + n, -1, x -> x.holds(n, n));
            refused("first " + n, -1, x -> x.first(n));
            refused("tries " + n, -1, x -> x.tries(n));
            refused("way " + n, -1, x -> x.way(n, n));
            refused("ways " + n, -1, x -> x.ways(n));
            refused("spans " + n, -1, x -> x.spans(n, n));
            refused("fits " + n, -1, x -> x.fits(n, n));
            refused("match " + n, -1, x -> x.match(n, n));
            refused("label " + n, -1, x -> x.label(n, n));
            refused("measure " + n, Checks.NO, x -> x.measure(n, n, n, n));
            refused("covered " + n, -1, x -> x.covered(n));
            refused("told " + n, -1, x -> x.told(n));
            refused("list " + n, -1, x -> x.list(n, n));
            refused("list of " + n, n < 0 ? -14 : -2, x -> x.list(0, n));
            refused("put " + n, -1, x -> x.put(n, n, n));
            refused("put at " + n, -13, x -> x.put(0, n, n));
            refused("get " + n, Checks.NO, x -> x.get(n, n));
            refused("get at " + n, Checks.NO, x -> x.get(0, n));
            refused("move " + n, -1, x -> x.move(n, n, n, n, n));
            refused("move from and to " + n, -13, x -> x.move(0, n, 0, n, n));
            refused("lay " + n, -1, x -> x.lay(n, n, n, n, n));
            refused("lay from " + n, -13, x -> x.lay(0, n, 0, 0, 0));
            refused("judge " + n, -1, x -> x.judge(n, n, n, n, n));
            refused("judge from " + n, 100, x -> x.judge(0, n, 0, 0, 0));
        }
    }

    private static void refusedOfLists() {
        Checks.says("LISTS 0 .. 3 hold nothing (at first) or a row of 0 .. 40 longs. NOTHING (-11): none is held; BEYOND (-13): no such place; BELOW (-14): a size below 0.");
        refused("list 4", -1, x -> x.list(4, 1));
        refused("list of 41", -2, x -> x.list(0, 41));
        refused("list of 41 where nothing is", -2, x -> x.list(3, 41));
        refused("list of -1", -14, x -> x.list(0, -1));
        refused("list of -1 where nothing is", -14, x -> x.list(3, -1));
        refused("put 4", -1, x -> x.put(4, 0, 1));
        refused("put nothing", -11, x -> x.put(3, 0, 1));
        refused("put beyond", -13, x -> x.put(0, 3, 1));
        refused("put below", -13, x -> x.put(0, -1, 1));
        refused("put into the empty one", -13, x -> x.put(1, 0, 1));
        refused("get beyond", Checks.NO, x -> x.get(0, 3));
        refused("move nothing", -11, x -> x.move(3, 0, 0, 0, 1));
        refused("move to nothing", -11, x -> x.move(0, 0, 3, 0, 1));
        refused("move too many", -13, x -> x.move(2, 0, 0, 0, 4));
        refused("move beyond the first's end", -13, x -> x.move(0, 1, 2, 0, 3));
        refused("move beyond the other's end", -13, x -> x.move(2, 0, 0, 1, 3));
        refused("move -1", -13, x -> x.move(0, 1, 0, 1, -1));
        refused("lay nothing", -11, x -> x.lay(3, 0, 0, 0, 0));
        refused("lay letter", -1, x -> x.lay(0, 0, 27, 0, 0));
        refused("lay below", -13, x -> x.lay(0, -1, 0, 0, 1));
        refused("lay behind the last place", -13, x -> x.lay(0, 3, 0, 0, 1));
        refused("lay into the empty one", -13, x -> x.lay(1, 0, 0, 0, 1));
        refused("judge nothing", -11, x -> x.judge(3, 0, 0, 0, 0));
        refused("judge measure", -1, x -> x.judge(0, 0, 0, 0, 7));
        refused("judge below", 100, x -> x.judge(0, -1, 0, 0, 0));
    }

    private static void refusedOfMatches() {
        Checks.says("Of a MATCH what 0 START, 1 how many ROWS, 2 how many unlike LETTERS (bits: 3). NONE: match, what (0 .. 3).");
        refused("match -1", -1, x -> x.match(-1, 0));
        refused("match 9", -1, x -> x.match(9, 0));
        refused("match what", -1, x -> x.match(0, 4));
        refused("label match", -1, x -> x.label(9, 0));
        refused("label row", -1, x -> x.label(0, 3));
        refused("measure match", Checks.NO, x -> x.measure(9, 0, 0, 0));
        refused("measure letter", Checks.NO, x -> x.measure(0, 27, 0, 0));
        refused("covered", -1, x -> x.covered(3));
    }

    private static RowPatterns tooMuch() {
        RowPatterns x = rich();
        x.may(1);
        return x;
    }

    private static void refusedTooMuch() {
        Checks.says("MUCH, if one search was (MATCHES stay).");
        changesNothing("run", AnswerEdgesTest::tooMuch, x -> x.run(), -7);
        changesNothing("first", AnswerEdgesTest::tooMuch, x -> x.first(0), -7);
        changesNothing("tries", AnswerEdgesTest::tooMuch, x -> x.tries(0), -7);
        changesNothing("way", AnswerEdgesTest::tooMuch, x -> x.way(0, 0), -7);
        changesNothing("ways", AnswerEdgesTest::tooMuch, x -> x.ways(0), -7);
        changesNothing("spans", AnswerEdgesTest::tooMuch, x -> x.spans(0, 0), -7);
        changesNothing("fits", AnswerEdgesTest::tooMuch, x -> x.fits(0, 3), -7);
    }

    private static RowPatterns full() {
        RowPatterns x = rich();
        for (int i = 3; i < 32; i++) {
            x.row(i, i);
        }
        x.run();
        Checks.feed(x, "|C".repeat(58) + "D");
        return x;
    }

    /** As it is told, without THE TAPE's text. */
    private static String few(RowPatterns x) {
        StringBuilder out = new StringBuilder();
        for (int what = 0; what < 10; what++) {
            out.append(x.told(what)).append(' ');
        }
        out.append(x.match(0, 0)).append(x.match(x.told(2) - 1, 0)).append(' ').append(x.cell(31, 0)).append(' ');
        out.append(x.clear()).append(' ').append(x.undo()).append(' ').append(x.told(2)).append(x.told(7));
        return out.toString();
    }

    private static void refusedWhenFull() {
        Checks.says("BAD: x, y; FULL.");
        String want = few(full());
        RowPatterns x = full();
        due("the 33rd ROW", x.row(0, 0), -4);
        Checks.due("as it was", few(x), want);
        x = full();
        due("a BAD one", x.row(0, 1001), -2);
        Checks.due("as it was", few(x), want);
        x = full();
        due("the 121st byte", x.feed('A'), -4);
        due("THE TAPE's text", x.pattern(), full().pattern());
        x = full();
        due("the 121st byte", x.feed('A'), -4);
        Checks.due("as it was", few(x), want);
    }

    private static void refusedWithoutAny() {
        Checks.says("STATE: there is none.");
        Maker bare = () -> Checks.rows();
        changesNothing("drop", bare, x -> x.drop(), -3);
        changesNothing("undo", bare, x -> x.undo(), -3);
        changesNothing("spell", bare, x -> x.spell(), -3);
        changesNothing("first", bare, x -> x.first(0), -3);
        changesNothing("tries", bare, x -> x.tries(0), -3);
        changesNothing("way", bare, x -> x.way(0, 0), -3);
        changesNothing("ways", bare, x -> x.ways(0), -3);
        changesNothing("spans", bare, x -> x.spans(0, 0), -3);
        changesNothing("fits", bare, x -> x.fits(0, 0), -3);
        changesNothing("run", bare, x -> x.run(), -3);
        changesNothing("part", bare, x -> x.part(0, 0), -1);
        changesNothing("paper", bare, x -> x.paper(0), -1);
        // A paper stays when there is nothing to spell.
        RowPatterns x = Checks.rows();
        x.image();
        Checks.pattern(x, "AB");
        x.spell();
        x.undo();
        due("no PATTERN again", x.spell(), -3);
        Checks.due("the paper stays", Checks.paper(x), "AB");
    }

    private static void askedChangesNothing() {
        Checks.says("what is asked changes nothing but THE PAPER.");
        refused("cell", 4, x -> x.cell(0, 0));
        refused("part", 5, x -> x.part(2, 0));
        refused("paper", 'B', x -> x.paper(1));
        refused("spell, what is there already", 3, x -> x.spell());
        refused("holds", 0, x -> x.holds(1, 0));
        refused("first", 2, x -> x.first(0));
        refused("tries", 2, x -> x.tries(3) + 1);
        refused("way", 1, x -> x.way(0, 1));
        refused("ways", 2, x -> x.ways(0));
        refused("spans", 2, x -> x.spans(0, 1));
        refused("fits", 1, x -> x.fits(0, 1));
        refused("match", 2, x -> x.match(0, 1));
        refused("label", 1, x -> x.label(0, 1));
        refused("measure", 9, x -> x.measure(0, 26, 0, 1));
        refused("covered", 2, x -> x.covered(1));
        refused("told", 3, x -> x.told(0));
        refused("get", -8, x -> x.get(0, 2));
        refused("judge", 0, x -> x.judge(0, 0, 0, 0, 0));
        refused("move none", 0, x -> x.move(0, 3, 2, 40, 0));
        refused("run again", 3, x -> x.run());
    }

    private static void spellingChangesThePaper() {
        Checks.says("THE PAPER becomes the PATTERN SPELLED: how many bytes.");
        RowPatterns x = rich();
        x.undo();
        x.clear();
        Checks.due("the paper so far", Checks.paper(x), "AB?");
        due("spell", x.spell(), 3);
        Checks.due("another", Checks.paper(x), "C|D");
        due("PARTS", x.told(1), 3);
        due("MATCHES stay", x.told(2), 2);
    }

    private static void faultEmptiesTheTape() {
        Checks.says("-100 less the FAULT of a text; THE TAPE is empty behind each call that reads it.");
        Maker cleared = () -> {
            RowPatterns x = rich();
            x.clear();
            return x;
        };
        changesNothing("pattern() of nothing", cleared, x -> x.pattern(), -100);
        changesNothing("define() of nothing", cleared, x -> x.define(), -100);
        changesNothing("pattern() with a FAULT", cleared, x -> Checks.pattern(x, "ZX(Y"), -104);
        changesNothing("define() with a FAULT", cleared, x -> Checks.define(x, "A=x<1;B=;C"), -110);
        changesNothing("clear() of nothing", cleared, x -> x.clear(), 0);
        changesNothing("clear()", cleared, x -> {
            x.feed('A');
            return x.clear();
        }, 1);
    }

    private static void firstThatIsNamed() {
        Checks.says("the first that a call's words name.");
        RowPatterns x = full();
        due("row: BAD ahead of FULL", x.row(1001, 1001), -2);
        due("set: NONE ahead of BAD", x.set(32, 1001, 1001), -1);
        due("feed: BAD ahead of FULL", x.feed(128), -2);
        due("list: NONE ahead of BAD", x.list(4, 41), -1);
        due("list: NONE ahead of BELOW", x.list(4, -1), -1);
        due("put: NONE ahead of NOTHING", x.put(4, -1, 0), -1);
        due("put: NOTHING ahead of BEYOND", x.put(3, -1, 0), -11);
        due("move: NONE ahead of NOTHING", x.move(3, -1, 4, -1, -1), -1);
        due("move: NOTHING ahead of BEYOND", x.move(3, -1, 0, -1, -1), -11);
        due("lay: NONE ahead of NOTHING", x.lay(3, -1, 27, 0, 0), -1);
        due("lay: NOTHING ahead of BEYOND", x.lay(3, -1, 0, 0, 0), -11);
        due("judge: NONE ahead of NOTHING", x.judge(3, -1, 27, 0, 0), -1);
        RowPatterns y = Checks.rows(1);
        due("first: NONE ahead of STATE", y.first(2), -1);
        due("tries: NONE ahead of STATE", y.tries(2), -1);
        due("way: NONE ahead of STATE", y.way(2, 0), -1);
        due("ways: NONE ahead of STATE", y.ways(2), -1);
        due("spans: NONE ahead of STATE", y.spans(0, 2), -1);
        due("fits: NONE ahead of STATE", y.fits(1, 0), -1);
    }

    private static void imageKeeps() {
        Checks.says("THE IMAGE: ROWS, CONDITIONS, the PATTERN, MODE and its LETTER, EMPTIES, MAY, MATCHES");
        RowPatterns x = rich();
        due("image", x.image(), 3);
        RowPatterns y = rich();
        y.image();
        x.set(0, 1, 1);
        x.drop();
        x.drop();
        Checks.pattern(x, "A");
        x.clear();
        Checks.pattern(x, "D*");
        Checks.define(x, "A=x>9;B=;D=x<9");
        x.mode(3, 25);
        x.empties(1);
        x.may(3);
        due("undo", x.undo(), 3);
        Checks.feed(x, "A*B");
        Checks.due("all is as it was", Shown.of(x, 120), Shown.of(y, 120));
    }

    private static void imageLeavesOut() {
        Checks.says("(THE TAPE, THE PAPER, LISTS stay by undo()).");
        RowPatterns x = rich();
        due("image", x.image(), 3);
        x.clear();
        Checks.pattern(x, "XYZ");
        x.spell();
        x.put(0, 0, 99);
        x.list(1, 2);
        x.list(3, 1);
        Checks.feed(x, "AB");
        due("undo", x.undo(), 3);
        due("THE TAPE", x.told(9), 2);
        Checks.due("THE PAPER", Checks.paper(x), "XYZ");
        Checks.due("a LIST", Checks.longs(x, 0, 3), "99 0 -8");
        due("a LIST that became longer", x.get(1, 1), 0);
        due("a LIST that held nothing", x.get(3, 0), 0);
        due("THE TAPE is read", x.pattern(), 3);
        due("THE PAPER stays", x.paper(0), 'X');
    }

    private static void imageOfTheEmpty() {
        Checks.says("THE IMAGE is taken: how many ROWS there are.");
        RowPatterns x = new RowPatterns();
        due("of no ROWS", x.image(), 0);
        x.row(1, 1);
        Checks.pattern(x, "A");
        Checks.define(x, "A=x=1");
        x.mode(3, 4);
        x.empties(0);
        x.may(9);
        due("run", x.run(), 1);
        due("undo", x.undo(), 0);
        int[] want = {0, 0, 0, 0, 0, 1, 5000, 0, 0, 0};
        for (int what = 0; what < want.length; what++) {
            due("as at first " + what, x.told(what), want[what]);
        }
        due("no PATTERN", x.spell(), -3);
        due("no PATTERN", x.part(0, 0), -1);
        due("no ROW", x.cell(0, 0), -1);
    }

    private static void imageOfTheFull() {
        Checks.says("All is as THE IMAGE: how many ROWS.");
        RowPatterns x = Checks.table(32, "A?");
        x.set(31, -999, 999);
        x.mode(1, 0);
        due("run", x.run(), 33);
        due("image", x.image(), 32);
        for (int i = 0; i < 32; i++) {
            x.set(i, 1000, -1);
        }
        for (int i = 0; i < 32; i++) {
            x.drop();
        }
        due("undo", x.undo(), 32);
        for (int i = 0; i < 31; i++) {
            due("X", x.cell(i, 0), i);
            due("Y", x.cell(i, 1), i);
        }
        due("the last ROW", x.cell(31, 0), -999);
        due("the last ROW", x.cell(31, 1), 999);
        due("it is full", x.row(1, 1), -4);
        due("MATCHES", x.told(2), 33);
        due("the last but one", x.label(31, 31), 0);
        due("the last", x.match(32, 0), 32);
    }

    private static void imageIsTheLatest() {
        Checks.says("All is as THE IMAGE: how many ROWS. STATE: there is none.");
        RowPatterns x = Checks.rows(1);
        due("image", x.image(), 1);
        x.row(2, 2);
        due("undo", x.undo(), 1);
        x.row(3, 3);
        x.row(4, 4);
        due("another", x.image(), 3);
        x.drop();
        x.drop();
        x.drop();
        due("undo to the latest", x.undo(), 3);
        due("the latest", x.cell(1, 0), 3);
        due("once more at once", x.undo(), 3);
        x.drop();
        due("and behind another call", x.undo(), 3);
    }

    private static void imageIsNotChanged() {
        Checks.says("THE IMAGE is taken");
        RowPatterns x = Checks.table(2, "A");
        Checks.define(x, "A=x=0");
        due("run", x.run(), 1);
        due("image", x.image(), 2);
        // What comes behind undo() doesn't come to THE IMAGE either.
        for (int i = 0; i < 3; i++) {
            due("MATCHES", x.told(2), 1);
            due("the MATCH", x.match(0, 0), 0);
            x.set(0, 8, 8);
            Checks.define(x, "A=x=1;B=x=7");
            due("another MATCH", x.run(), 1);
            due("it is another", x.match(0, 0), 1);
            x.mode(2, i);
            x.empties(0);
            x.may(1 + i);
            due("undo", x.undo(), 2);
            due("X", x.cell(0, 0), 0);
            due("CONDITIONS", x.told(7), 1);
            due("the CONDITION", x.holds(0, 0), 1);
            due("MODE", x.told(3), 0);
            due("its LETTER", x.told(4), 0);
            due("EMPTIES", x.told(5), 1);
            due("MAY", x.told(6), 5000);
        }
    }

    private static void matchesOfTheImage() {
        Checks.says("MODE and its LETTER, EMPTIES, MAY, MATCHES");
        RowPatterns x = Checks.table(3, "A");
        due("without MATCHES", x.image(), 3);
        due("run", x.run(), 3);
        due("image() leaves MATCHES", x.told(2), 3);
        due("undo", x.undo(), 3);
        due("none again", x.told(2), 0);
        due("run", x.run(), 3);
        due("with MATCHES", x.image(), 3);
        x.drop();
        due("none", x.told(2), 0);
        due("undo", x.undo(), 3);
        due("they are there again", x.told(2), 3);
        due("the last", x.measure(2, 0, 0, 1), 2);
        due("run again", x.run(), 3);
        due("undo again", x.undo(), 3);
        due("they are there", x.label(2, 2), 0);
        // Others in between, at the same places and of the same number, leave nothing of theirs.
        Checks.pattern(x, "BC|$");
        x.mode(1, 0);
        due("others", x.run(), 3);
        due("others", x.match(0, 1), 2);
        due("others", x.match(2, 0), 3);
        due("undo", x.undo(), 3);
        for (int m = 0; m < 3; m++) {
            due("START", x.match(m, 0), m);
            due("how many ROWS", x.match(m, 1), 1);
            due("bits", x.match(m, 3), 1);
            due("in how many", x.covered(m), 1);
            for (int row = 0; row < 3; row++) {
                due("LETTER", x.label(m, row), row == m ? 0 : -5);
            }
        }
        Checks.pattern(x, "A?");
        due("as many as there can be of 3 ROWS", x.run(), 4);
        due("image", x.image(), 3);
        Checks.pattern(x, "ABC");
        due("fewer", x.run(), 1);
        due("undo", x.undo(), 3);
        due("all of them", x.told(2), 4);
        due("the last", x.match(3, 0), 3);
        due("its ROWS", x.match(3, 1), 0);
        due("the last but one", x.match(2, 1), 1);
    }

    private static void withoutAnImage() {
        Checks.says("STATE: there is none.");
        RowPatterns x = Checks.table(1, "A");
        due("run", x.run(), 1);
        due("undo", x.undo(), -3);
        due("ROWS", x.told(0), 1);
        due("MATCHES stay", x.told(2), 1);
        due("image", x.image(), 1);
        due("undo", x.undo(), 1);
    }
}
