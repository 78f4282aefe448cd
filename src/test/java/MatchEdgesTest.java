/** The edges of MATCHES, of what is told of them and of MEASURES; beside each test its sentence. */
public final class MatchEdgesTest {
    private static final int[] ENDS = {Checks.LEAST, Checks.LEAST + 1, Checks.MOST - 1, Checks.MOST};

    public static void main(String[] args) {
        fromStartZero();
        rowOrEmpties();
        withoutAMatch();
        past();
        next();
        firstAndLast();
        letterIsTheNextStart();
        upToHowManyRows();
        runAnswers();
        runTooMuch();
        noneAtFirst();
        goneBehindWhatDoesSomething();
        stayBehindOthers();
        latestRun();
        matchAnswers();
        labelAnswers();
        coveredAnswers();
        rowsInNoMatch();
        measureOfAll();
        howManyThere();
        sum();
        leastAndMost();
        firstAndLastMeasure();
        mean();
        noneThatArentMissing();
        measureAnswers();
        Checks.end();
    }

    private static void due(String what, long got, long want) {
        Checks.due(what, got, want);
    }

    private static void matchesDue(RowPatterns x, String want) {
        Checks.due("matches", Checks.matches(x), want);
    }

    private static void fromStartZero() {
        Checks.says("MATCHES: from START 0 on: the PREFERRED WAY, if there is one");
        RowPatterns x = Checks.table(3, "A");
        matchesDue(x, "0+1 1+1 2+1");
        Checks.pattern(x, "A|AB");
        matchesDue(x, "0+1 1+1 2+1");
        Checks.pattern(x, "AB|A");
        matchesDue(x, "0+2 2+1");
        Checks.pattern(x, "ABCD");
        matchesDue(x, "");
        Checks.pattern(x, "^A");
        matchesDue(x, "0+1");
    }

    private static void rowOrEmpties() {
        Checks.says("(and it has a ROW, or EMPTIES count), is a MATCH.");
        RowPatterns x = Checks.table(3, "B?");
        Checks.define(x, "B=x=1");
        matchesDue(x, "0+0 1+1 2+0 3+0");
        x.empties(0);
        matchesDue(x, "1+1");
        // The PREFERRED one has no ROW; that another has one doesn't matter.
        Checks.pattern(x, "B??");
        matchesDue(x, "");
        x.empties(1);
        matchesDue(x, "0+0 1+0 2+0 3+0");
        RowPatterns none = Checks.table(0, "A?");
        matchesDue(none, "0+0");
        none.empties(0);
        matchesDue(none, "");
    }

    private static void withoutAMatch() {
        Checks.says("The next START: without a MATCH 1 more;");
        RowPatterns x = Checks.table(5, "AB");
        Checks.define(x, "A=x=3|x=1");
        for (int mode = 0; mode < 4; mode++) {
            x.mode(mode, 1);
            matchesDue(x, "1+2 3+2");
        }
        Checks.define(x, "A=x=3");
        matchesDue(x, "3+2");
        // An empty WAY that doesn't count is no MATCH.
        Checks.pattern(x, "A*");
        x.mode(0, 0);
        x.empties(0);
        matchesDue(x, "3+1");
    }

    private static void past() {
        Checks.says("PAST: behind its last ROW (1 more than START, if it has none);");
        RowPatterns x = Checks.table(5, "AA");
        matchesDue(x, "0+2 2+2");
        Checks.pattern(x, "A{4}|A");
        matchesDue(x, "0+4 4+1");
        Checks.pattern(x, "A{5}|$");
        matchesDue(x, "0+5 5+0");
        Checks.pattern(x, "A??");
        matchesDue(x, "0+0 1+0 2+0 3+0 4+0 5+0");
    }

    private static void next() {
        Checks.says("NEXT: 1 more than START;");
        RowPatterns x = Checks.table(4, "AAA|A");
        x.mode(1, 1);
        matchesDue(x, "0+3 1+3 2+1 3+1");
        Checks.pattern(x, "A??");
        matchesDue(x, "0+0 1+0 2+0 3+0 4+0");
    }

    private static void firstAndLast() {
        Checks.says("FIRST, LAST: the first, the last of its ROWS that has the MODE's LETTER, if that is above START, otherwise 1 more than START.");
        RowPatterns x = Checks.table(7, "ABBC");
        x.mode(2, 1);
        matchesDue(x, "0+4 1+4 2+4 3+4");
        x.mode(3, 1);
        matchesDue(x, "0+4 2+4");
        x.mode(2, 2);
        matchesDue(x, "0+4 3+4");
        x.mode(3, 2);
        matchesDue(x, "0+4 3+4");
        x.mode(2, 0);
        matchesDue(x, "0+4 1+4 2+4 3+4");
        x.mode(3, 0);
        matchesDue(x, "0+4 1+4 2+4 3+4");
        // No ROW has it.
        x.mode(2, 25);
        matchesDue(x, "0+4 1+4 2+4 3+4");
        x.mode(3, 25);
        matchesDue(x, "0+4 1+4 2+4 3+4");
        // No ROW at all.
        Checks.pattern(x, "A??");
        matchesDue(x, "0+0 1+0 2+0 3+0 4+0 5+0 6+0 7+0");
        x.mode(2, 0);
        matchesDue(x, "0+0 1+0 2+0 3+0 4+0 5+0 6+0 7+0");
        // LETTERS beyond the match are none of its ROWS.
        Checks.pattern(x, "ABBB|AB$");
        x.mode(3, 1);
        matchesDue(x, "0+4 3+4");
    }

    private static void letterIsTheNextStart() {
        Checks.says("FIRST, LAST: the ROW with the LETTER is the next START itself (1 more, if that is START).");
        RowPatterns x = Checks.table(6, "AAB");
        // The first A is START, so it is 1 more; that another A is above START doesn't matter.
        x.mode(2, 0);
        matchesDue(x, "0+3 1+3 2+3 3+3");
        x.mode(3, 0);
        matchesDue(x, "0+3 1+3 2+3 3+3");
        Checks.pattern(x, "ABAA");
        matchesDue(x, "0+4");
        x.mode(2, 0);
        matchesDue(x, "0+4 1+4 2+4");
        x.mode(2, 1);
        matchesDue(x, "0+4 1+4 2+4");
        Checks.pattern(x, "AAAB");
        x.mode(3, 1);
        matchesDue(x, "0+4");
        Checks.pattern(x, "AAB");
        matchesDue(x, "0+3 2+3");
    }

    private static void upToHowManyRows() {
        Checks.says("START goes up to how many ROWS there are.");
        RowPatterns x = Checks.table(2, "$");
        matchesDue(x, "2+0");
        Checks.pattern(x, "A*$");
        matchesDue(x, "0+2 2+0");
        Checks.pattern(x, "A?");
        matchesDue(x, "0+1 1+1 2+0");
        RowPatterns none = Checks.table(0, "^$");
        matchesDue(none, "0+0");
        // As many MATCHES as there can be.
        RowPatterns all = Checks.table(32, "A?");
        for (int mode = 0; mode < 4; mode++) {
            all.mode(mode, 25);
            due("how many", all.run(), 33);
            due("told", all.told(2), 33);
            due("the last but one", all.match(31, 1), 1);
            due("the last", all.match(32, 0), 32);
            due("its ROWS", all.match(32, 1), 0);
            due("none behind it", all.match(33, 0), -1);
        }
    }

    private static void runAnswers() {
        Checks.says("MATCHES are sought: how many there are; MUCH, if one search was (MATCHES stay). STATE.");
        RowPatterns x = new RowPatterns();
        due("no PATTERN", x.run(), -3);
        Checks.pattern(x, "A");
        due("none", x.run(), 0);
        x.row(1, 1);
        due("one", x.run(), 1);
        Checks.pattern(x, "AB");
        due("none", x.run(), 0);
        due("told", x.told(2), 0);
        due("match", x.match(0, 0), -1);
    }

    private static void runTooMuch() {
        Checks.says("MUCH, if one search was (MATCHES stay).");
        RowPatterns x = Checks.table(4, "A|B$");
        Checks.define(x, "A=x=0|x=2");
        due("run", x.run(), 3);
        // START 0 takes 2 TRIES and has another MATCH now; START 1 takes 4.
        Checks.pattern(x, "A|B$");
        Checks.define(x, "A=x=0|x=2");
        due("run", x.run(), 3);
        x.mode(1, 0);
        x.may(3);
        due("not too much", x.tries(0), 2);
        due("too much", x.run(), -7);
        due("they stay", x.told(2), 3);
        int[] starts = {0, 2, 3};
        for (int m = 0; m < 3; m++) {
            due("they stay", x.match(m, 0), starts[m]);
            due("they stay", x.match(m, 1), 1);
            due("they stay", x.label(m, starts[m]), m == 2 ? 1 : 0);
        }
        due("and none more", x.match(3, 0), -1);
        due("and again", x.run(), -7);
        due("they stay", x.match(2, 0), 3);
        x.may(5000);
        due("run", x.run(), 3);
    }

    private static void noneAtFirst() {
        Checks.says("MATCHES are those of the latest run (none at first, and behind each row(), set(), drop(), pattern(), define() that does something).");
        RowPatterns x = Checks.table(2, "A");
        due("none at first", x.told(2), 0);
        due("match", x.match(0, 0), -1);
        due("label", x.label(0, 0), -1);
        due("measure", x.measure(0, 0, 0, 0), Checks.NO);
        due("covered", x.covered(0), 0);
        due("ROWS in none", x.told(8), 2);
        due("first() makes none", x.first(0), 1);
        due("none", x.told(2), 0);
    }

    private static RowPatterns withMatches() {
        RowPatterns x = Checks.table(3, "A");
        due("run", x.run(), 3);
        return x;
    }

    private static void noneNow(String behind, RowPatterns x) {
        due("MATCHES behind " + behind, x.told(2), 0);
        due("match behind " + behind, x.match(0, 0), -1);
        due("ROWS in none behind " + behind, x.told(8), x.told(0));
    }

    private static void goneBehindWhatDoesSomething() {
        Checks.says("behind each row(), set(), drop(), pattern(), define() that does something).");
        RowPatterns x = withMatches();
        x.row(1, 1);
        noneNow("row()", x);
        x = withMatches();
        x.set(2, 1, 1);
        noneNow("set()", x);
        x = withMatches();
        x.drop();
        noneNow("drop()", x);
        x = withMatches();
        Checks.pattern(x, "A");
        noneNow("pattern()", x);
        x = withMatches();
        Checks.define(x, "A=1=1");
        noneNow("define()", x);
        x = withMatches();
        Checks.define(x, "Z=");
        noneNow("define() of nothing", x);
    }

    private static void stayBehindOthers() {
        Checks.says("that does something).");
        RowPatterns x = Checks.table(32, "A");
        due("run", x.run(), 32);
        due("row() that is FULL", x.row(1, 1), -4);
        due("row() that is BAD", x.row(1, 1001), -2);
        due("set() of NONE", x.set(32, 1, 1), -1);
        due("set() that is BAD", x.set(0, 1, -1000), -2);
        due("pattern() with a FAULT", Checks.pattern(x, "A|"), -102);
        due("pattern() of nothing", x.pattern(), -100);
        due("define() with a FAULT", Checks.define(x, "A=1=1;B"), -107);
        due("define() of nothing", x.define(), -100);
        x.mode(3, 3);
        x.empties(0);
        x.may(1);
        x.image();
        x.spell();
        x.first(0);
        x.ways(5);
        x.holds(3, 3);
        x.list(0, 40);
        due("lay", x.lay(0, 0, 0, 0, 0), 32);
        due("they stay", x.told(2), 32);
        due("the last stays", x.match(31, 0), 31);
        RowPatterns none = Checks.table(0, "$");
        due("run", none.run(), 1);
        due("drop() of none", none.drop(), -3);
        due("it stays", none.told(2), 1);
    }

    private static void latestRun() {
        Checks.says("MATCHES are those of the latest run");
        RowPatterns x = withMatches();
        x.mode(1, 0);
        x.empties(0);
        due("as they were", x.told(2), 3);
        Checks.pattern(x, "ABC");
        due("run", x.run(), 1);
        due("the one", x.match(0, 1), 3);
        due("no other is left", x.match(1, 0), -1);
        due("no other is left", x.label(1, 1), -1);
        due("in how many", x.covered(1), 1);
        Checks.pattern(x, "ABCD");
        due("run without any", x.run(), 0);
        due("none is left", x.match(0, 0), -1);
    }

    private static void matchAnswers() {
        Checks.says("Of a MATCH what 0 START, 1 how many ROWS, 2 how many unlike LETTERS (bits: 3). NONE: match, what (0 .. 3).");
        RowPatterns x = Checks.table(32, "AZ{30}A|$");
        due("run", x.run(), 2);
        int[] first = {0, 32, 2, 1 | 1 << 25};
        int[] last = {32, 0, 0, 0};
        for (int what = 0; what < 4; what++) {
            due("what " + what, x.match(0, what), first[what]);
            due("without a ROW, what " + what, x.match(1, what), last[what]);
        }
        due("what -1", x.match(0, -1), -1);
        due("what 4", x.match(0, 4), -1);
        due("match -1", x.match(-1, 0), -1);
        due("match 2", x.match(2, 0), -1);
        for (int none : ENDS) {
            due("match " + none, x.match(none, 0), -1);
            due("what " + none, x.match(0, none), -1);
            due("both " + none, x.match(none, none), -1);
        }
        Checks.pattern(x, "ABCDEFGHIJKLMNOPQRSTUVWXYZ");
        x.run();
        due("all LETTERS", x.match(0, 2), 26);
        due("their bits", x.match(0, 3), (1 << 26) - 1);
    }

    private static void labelAnswers() {
        Checks.says("The LETTER that a ROW has in a MATCH; -5: it is not in it. NONE: match, row.");
        RowPatterns x = Checks.table(6, "AZB");
        Checks.define(x, "A=x=2");
        due("run", x.run(), 1);
        int[] want = {-5, -5, 0, 25, 1, -5};
        for (int row = 0; row < want.length; row++) {
            due("row " + row, x.label(0, row), want[row]);
        }
        due("row -1", x.label(0, -1), -1);
        due("row 6", x.label(0, 6), -1);
        due("match -1", x.label(-1, 2), -1);
        due("match 1", x.label(1, 2), -1);
        for (int none : ENDS) {
            due("match " + none, x.label(none, 2), -1);
            due("row " + none, x.label(0, none), -1);
            due("both " + none, x.label(none, none), -1);
        }
        Checks.pattern(x, "$");
        due("run", x.run(), 1);
        due("of a MATCH without a ROW", x.label(0, 5), -5);
        due("START itself is no ROW", x.label(0, 6), -1);
        RowPatterns all = Checks.table(32, "A{31}Z");
        all.run();
        due("the first of 32", all.label(0, 0), 0);
        due("the last of 32", all.label(0, 31), 25);
        due("none behind", all.label(0, 32), -1);
    }

    private static void coveredAnswers() {
        Checks.says("In how many MATCHES a ROW is. NONE.");
        RowPatterns x = Checks.table(32, "A*");
        x.mode(1, 0);
        due("run", x.run(), 33);
        due("the first", x.covered(0), 1);
        due("the second", x.covered(1), 2);
        due("the last", x.covered(31), 32);
        due("row -1", x.covered(-1), -1);
        due("row 32", x.covered(32), -1);
        for (int none : ENDS) {
            due("row " + none, x.covered(none), -1);
        }
        x.drop();
        due("without MATCHES", x.covered(30), 0);
        due("a ROW that is gone", x.covered(31), -1);
        due("of no ROWS", new RowPatterns().covered(0), -1);
    }

    private static void rowsInNoMatch() {
        Checks.says("8 ROWS in no MATCH,");
        RowPatterns x = Checks.table(32, "AB");
        due("all of them", x.told(8), 32);
        Checks.define(x, "A=x=7|x=30");
        due("run", x.run(), 2);
        due("all but four", x.told(8), 28);
        Checks.define(x, "A=");
        due("run", x.run(), 16);
        due("none", x.told(8), 0);
        Checks.pattern(x, "$");
        due("run", x.run(), 1);
        due("a MATCH without ROWS", x.told(8), 32);
        due("no ROWS", Checks.table(0, "A").told(8), 0);
    }

    private static RowPatterns measured() {
        RowPatterns x = new RowPatterns();
        x.row(9, 9);
        x.row(1000, 4);
        x.row(-7, 1000);
        x.row(2, 1000);
        x.row(1000, 1000);
        x.row(-1, 8);
        x.row(9, 9);
        Checks.pattern(x, "A{4}B");
        Checks.define(x, "A=!x=9");
        due("run", x.run(), 1);
        due("START", x.match(0, 0), 1);
        return x;
    }

    private static void measureDue(RowPatterns x, int letter, int column, long... want) {
        for (int measure = 0; measure < want.length; measure++) {
            due("measure " + measure + " of " + letter + ", column " + column, x.measure(0, letter, column, measure), want[measure]);
        }
    }

    private static void measureOfAll() {
        Checks.says("MEASURES of a LETTER (26: of all) in a MATCH, of a COLUMN: of its ROWS that have it, in their order:");
        RowPatterns x = measured();
        measureDue(x, 0, 0, 4, -5, -7, 2, -7, 2, -3);
        measureDue(x, 0, 1, 4, 4, 4, 4, 4, 4, 4);
        measureDue(x, 1, 0, 1, -1, -1, -1, -1, -1, -1);
        measureDue(x, 1, 1, 1, 8, 8, 8, 8, 8, 8);
        measureDue(x, 26, 0, 5, -6, -7, 2, -7, -1, -2);
        measureDue(x, 26, 1, 5, 12, 4, 8, 4, 8, 6);
        Checks.pattern(x, "Z$");
        x.run();
        measureDue(x, 25, 0, 1, 9, 9, 9, 9, 9, 9);
        measureDue(x, 26, 0, 1, 9, 9, 9, 9, 9, 9);
    }

    private static void howManyThere() {
        Checks.says("0 how many there are (MISSING ones, too),");
        RowPatterns x = measured();
        due("A, of X", x.measure(0, 0, 0, 0), 4);
        due("A, of Y", x.measure(0, 0, 1, 0), 4);
        due("no such LETTER", x.measure(0, 2, 0, 0), 0);
        RowPatterns all = Checks.table(32, "A*|$");
        all.run();
        due("all 32", all.measure(0, 26, 0, 0), 32);
        due("of a MATCH without a ROW", all.measure(1, 26, 0, 0), 0);
    }

    private static void sum() {
        Checks.says("1 the sum,");
        RowPatterns x = new RowPatterns();
        for (int i = 0; i < 32; i++) {
            x.row(999, i == 0 ? 1000 : -999);
        }
        Checks.pattern(x, "A*");
        x.run();
        due("the greatest", x.measure(0, 0, 0, 1), 31968);
        due("the least of those that are there", x.measure(0, 26, 1, 1), -30969);
        due("of none", x.measure(0, 1, 0, 1), 0);
        due("of a MATCH without a ROW", x.measure(1, 26, 0, 1), 0);
        // MISSING ones add nothing.
        x = new RowPatterns();
        x.row(1000, 5);
        x.row(1000, 1000);
        Checks.pattern(x, "A*");
        x.run();
        due("all MISSING", x.measure(0, 0, 0, 1), 0);
        due("one MISSING", x.measure(0, 0, 1, 1), 5);
    }

    private static void leastAndMost() {
        Checks.says("2 the least, 3 the most,");
        RowPatterns x = new RowPatterns();
        x.row(-999, 1000);
        x.row(999, 0);
        x.row(0, -1);
        Checks.pattern(x, "A*");
        x.run();
        due("the least X", x.measure(0, 0, 0, 2), -999);
        due("the most X", x.measure(0, 0, 0, 3), 999);
        due("the least Y", x.measure(0, 0, 1, 2), -1);
        due("the most Y, not what is MISSING", x.measure(0, 0, 1, 3), 0);
        x.set(0, -5, -7);
        x.set(1, -5, -7);
        x.set(2, -6, -6);
        x.run();
        due("the most below 0", x.measure(0, 0, 0, 3), -5);
        due("the least, the last", x.measure(0, 0, 0, 2), -6);
        due("the most, the last", x.measure(0, 0, 1, 3), -6);
        x.set(0, 5, 7);
        x.set(1, 5, 7);
        x.set(2, 6, 6);
        x.run();
        due("the least above 0", x.measure(0, 0, 0, 2), 5);
        due("the most", x.measure(0, 0, 1, 3), 7);
    }

    private static void firstAndLastMeasure() {
        Checks.says("MEASURES 4, 5: the first, the last of those that aren't MISSING.");
        RowPatterns x = new RowPatterns();
        x.row(1000, 1);
        x.row(4, 2);
        x.row(3, 1000);
        x.row(1000, 1000);
        Checks.pattern(x, "AAAB");
        x.run();
        due("the first X", x.measure(0, 0, 0, 4), 4);
        due("the last X", x.measure(0, 26, 0, 5), 3);
        due("the first Y", x.measure(0, 0, 1, 4), 1);
        due("the last Y", x.measure(0, 26, 1, 5), 2);
        due("of B, first", x.measure(0, 1, 0, 4), Checks.NO);
        due("of B, last", x.measure(0, 1, 0, 5), Checks.NO);
        x.set(3, 8, 0);
        x.run();
        due("of another LETTER", x.measure(0, 0, 0, 5), 3);
        due("of all", x.measure(0, 26, 0, 5), 8);
        due("a 0 is there", x.measure(0, 26, 1, 5), 0);
    }

    private static void mean() {
        Checks.says("6 the mean (rounded down);");
        int[][] numbers = {{1, 2}, {-1, -2}, {2, 2}, {-2, -2}, {0, 1}, {0, -1}, {999, 999}, {-999, -999}, {-999, 999}, {-999, 998}, {1000, 7}};
        long[] want = {1, -2, 2, -2, 0, -1, 999, -999, 0, -1, 7};
        for (int i = 0; i < want.length; i++) {
            RowPatterns x = Checks.rows(numbers[i]);
            Checks.pattern(x, "AA");
            x.run();
            due("mean of " + numbers[i][0] + ", " + numbers[i][1], x.measure(0, 0, 0, 6), want[i]);
        }
        RowPatterns x = Checks.rows(1, 1, 0);
        Checks.pattern(x, "AAA");
        x.run();
        due("two thirds", x.measure(0, 0, 0, 6), 0);
        x.set(0, -1, 0);
        x.set(1, 0, 0);
        x.run();
        due("less a third", x.measure(0, 0, 0, 6), -1);
    }

    private static void noneThatArentMissing() {
        Checks.says("NO for 2 to 6, if there are none that aren't MISSING.");
        RowPatterns x = new RowPatterns();
        x.row(1000, 3);
        x.row(1000, 4);
        Checks.pattern(x, "AB|$");
        due("run", x.run(), 2);
        long no = Checks.NO;
        measureDue(x, 0, 0, 1, 0, no, no, no, no, no);
        measureDue(x, 26, 0, 2, 0, no, no, no, no, no);
        measureDue(x, 2, 1, 0, 0, no, no, no, no, no);
        measureDue(x, 0, 1, 1, 3, 3, 3, 3, 3, 3);
        long[] want = {0, 0, no, no, no, no, no};
        for (int measure = 0; measure < 7; measure++) {
            due("of a MATCH without a ROW " + measure, x.measure(1, 26, 1, measure), want[measure]);
        }
        due("it is told as the constant", x.measure(0, 0, 0, 2), RowPatterns.NO);
        due("the constant", RowPatterns.NO, Long.MIN_VALUE);
    }

    private static void measureAnswers() {
        Checks.says("A MEASURE. NO: no such match, letter (0 .. 26), column, measure (0 .. 6).");
        RowPatterns x = Checks.table(32, "A?");
        due("without MATCHES", x.measure(0, 0, 0, 0), Checks.NO);
        due("run", x.run(), 33);
        due("the first", x.measure(0, 0, 0, 1), 0);
        due("the last", x.measure(32, 0, 0, 1), 0);
        due("the last with a ROW", x.measure(31, 26, 1, 6), 31);
        due("match -1", x.measure(-1, 0, 0, 0), Checks.NO);
        due("match 33", x.measure(33, 0, 0, 0), Checks.NO);
        due("letter -1", x.measure(1, -1, 0, 0), Checks.NO);
        due("letter 25", x.measure(1, 25, 0, 0), 0);
        due("letter 26", x.measure(1, 26, 0, 0), 1);
        due("letter 27", x.measure(1, 27, 0, 0), Checks.NO);
        due("column -1", x.measure(1, 0, -1, 0), Checks.NO);
        due("column 2", x.measure(1, 0, 2, 0), Checks.NO);
        due("measure -1", x.measure(1, 0, 0, -1), Checks.NO);
        due("measure 7", x.measure(1, 0, 0, 7), Checks.NO);
        for (int none : ENDS) {
            due("match " + none, x.measure(none, 0, 0, 0), Checks.NO);
            due("letter " + none, x.measure(0, none, 0, 0), Checks.NO);
            due("column " + none, x.measure(0, 0, none, 0), Checks.NO);
            due("measure " + none, x.measure(0, 0, 0, none), Checks.NO);
            due("all " + none, x.measure(none, none, none, none), Checks.NO);
        }
    }
}
