/** The edges of the table, of THE TAPE as a row of bytes, and of the settings; beside each test its sentence. */
public final class TableEdgesTest {
    private static final int[] ENDS = {Checks.LEAST, Checks.LEAST + 1, Checks.MOST - 1, Checks.MOST};

    public static void main(String[] args) {
        newObject();
        rowsToThirtyTwo();
        numbersOfARow();
        rowsAnswers();
        settingARow();
        setting();
        dropping();
        cells();
        columns();
        feeding();
        tape();
        clearing();
        modes();
        modeAnswers();
        emptiesAtFirst();
        emptiesAnswers();
        mayAtFirst();
        mayAnswers();
        told();
        toldOfTheFull();
        Checks.end();
    }

    private static void due(String what, long got, long want) {
        Checks.due(what, got, want);
    }

    private static RowPatterns full() {
        RowPatterns x = new RowPatterns();
        for (int i = 0; i < 32; i++) {
            x.row(i, -i);
        }
        return x;
    }

    private static void newObject() {
        Checks.says("No ROWS, no PATTERN.");
        RowPatterns x = new RowPatterns();
        due("ROWS", x.told(0), 0);
        due("PARTS", x.told(1), 0);
        due("cell", x.cell(0, 0), -1);
        due("set", x.set(0, 1, 1), -1);
        due("drop", x.drop(), -3);
        due("covered", x.covered(0), -1);
        due("holds", x.holds(0, 0), -1);
        due("part", x.part(0, 0), -1);
        due("spell", x.spell(), -3);
        due("first at 0, which is how many ROWS there are", x.first(0), -3);
        due("first at 1", x.first(1), -1);
        due("run", x.run(), -3);
        due("the first ROW's number", x.row(1, 2), 0);
    }

    private static void rowsToThirtyTwo() {
        Checks.says("ROWS 0 .. as they come (32 at most)");
        RowPatterns x = new RowPatterns();
        for (int i = 0; i < 32; i++) {
            due("row", x.row(i, -i), i);
            due("how many", x.told(0), i + 1);
        }
        due("the 33rd", x.row(7, 7), -4);
        due("how many", x.told(0), 32);
        due("the last", x.cell(31, 0), 31);
        due("the last", x.cell(31, 1), -31);
        due("none behind it", x.cell(32, 0), -1);
        due("the first", x.cell(0, 0), 0);
        due("one goes", x.drop(), 31);
        due("one comes", x.row(5, 6), 31);
        due("full again", x.row(7, 7), -4);
        due("the new one", x.cell(31, 0), 5);
    }

    private static void numbersOfARow() {
        Checks.says("each with an X and a Y (-999 .. 999), either of which may be MISSING.");
        RowPatterns x = new RowPatterns();
        int[][] good = {{-999, 0}, {999, 0}, {0, -999}, {0, 999}, {-999, 999}, {1000, 0}, {0, 1000}, {1000, 1000}, {0, 0}};
        for (int i = 0; i < good.length; i++) {
            due("row", x.row(good[i][0], good[i][1]), i);
            due("X", x.cell(i, 0), good[i][0]);
            due("Y", x.cell(i, 1), good[i][1]);
            due("set", x.set(0, good[i][0], good[i][1]), i + 1);
            due("X", x.cell(0, 0), good[i][0]);
            due("Y", x.cell(0, 1), good[i][1]);
        }
        for (int bad : new int[] {-1000, -1001, 1001, 1002}) {
            due("X " + bad, x.row(bad, 0), -2);
            due("Y " + bad, x.row(0, bad), -2);
            due("X " + bad, x.set(0, bad, 0), -2);
            due("Y " + bad, x.set(0, 0, bad), -2);
        }
        for (int bad : ENDS) {
            due("X " + bad, x.row(bad, 0), -2);
            due("Y " + bad, x.row(0, bad), -2);
            due("X " + bad, x.set(0, bad, 0), -2);
            due("Y " + bad, x.set(0, 0, bad), -2);
            due("both " + bad, x.row(bad, bad), -2);
        }
        due("none of these came", x.told(0), good.length);
    }

    private static void rowsAnswers() {
        Checks.says("A ROW comes (1000: it lacks that): its number. BAD: x, y; FULL.");
        RowPatterns x = full();
        due("BAD is named ahead of FULL", x.row(1001, 0), -2);
        due("BAD is named ahead of FULL", x.row(0, -1000), -2);
        due("FULL", x.row(1000, -999), -4);
        x.drop();
        due("it lacks X", x.row(1000, 3), 31);
        due("X", x.cell(31, 0), 1000);
        due("Y", x.cell(31, 1), 3);
        // What is MISSING is no number: a TEST over it doesn't hold.
        Checks.define(x, "A=x>0;B=y>0");
        due("X is not the number 1000", x.holds(0, 31), 0);
        due("Y is there", x.holds(1, 31), 1);
    }

    private static void settingARow() {
        Checks.says("A ROW has these (1000 likewise): how many ROWS there are. NONE; BAD.");
        RowPatterns x = full();
        due("the first", x.set(0, 7, 1000), 32);
        due("the last", x.set(31, 1000, 8), 32);
        due("X of the first", x.cell(0, 0), 7);
        due("Y of the first", x.cell(0, 1), 1000);
        due("X of the last", x.cell(31, 0), 1000);
        due("Y of the last", x.cell(31, 1), 8);
        due("those between stay", x.cell(1, 0), 1);
        due("those between stay", x.cell(30, 1), -30);
        due("below the first", x.set(-1, 0, 0), -1);
        due("behind the last", x.set(32, 0, 0), -1);
        due("NONE is named ahead of BAD", x.set(32, 1001, 0), -1);
        due("NONE is named ahead of BAD", x.set(-1, 0, 1001), -1);
        for (int none : ENDS) {
            due("row " + none, x.set(none, 0, 0), -1);
            due("row " + none, x.set(none, none, none), -1);
        }
        due("of a new object", new RowPatterns().set(0, 0, 0), -1);
    }

    private static void setting() {
        Checks.says("set() to what was there empties MATCHES, too.");
        RowPatterns x = Checks.table(2, "A");
        due("run", x.run(), 2);
        due("set to other numbers that are BAD", x.set(0, 1001, 0), -2);
        due("MATCHES stay", x.told(2), 2);
        due("set to what was there", x.set(0, 0, 0), 2);
        due("MATCHES", x.told(2), 0);
        due("match", x.match(0, 0), -1);
    }

    private static void dropping() {
        Checks.says("The last ROW goes: how many there are then. STATE: there is none.");
        RowPatterns x = full();
        for (int i = 31; i >= 0; i--) {
            due("drop", x.drop(), i);
            due("the last is gone", x.cell(i, 0), -1);
            due("the one ahead of it stays", x.cell(i - 1, 0), i - 1);
        }
        due("there is none", x.drop(), -3);
        due("how many", x.told(0), 0);
        due("a ROW comes again", x.row(4, 5), 0);
        due("what it has", x.cell(0, 1), 5);
        due("it goes", x.drop(), 0);
        due("there is none", x.drop(), -3);
    }

    private static void cells() {
        Checks.says("What a ROW has; 1000: it is MISSING. NONE: row, column.");
        RowPatterns x = full();
        x.set(3, 1000, -999);
        due("MISSING", x.cell(3, 0), 1000);
        due("the least number", x.cell(3, 1), -999);
        due("the first ROW", x.cell(0, 1), 0);
        due("the last ROW", x.cell(31, 1), -31);
        for (int none : new int[] {-1, 32}) {
            due("row " + none, x.cell(none, 0), -1);
        }
        for (int none : ENDS) {
            due("row " + none, x.cell(none, 0), -1);
            due("column " + none, x.cell(0, none), -1);
            due("both " + none, x.cell(none, none), -1);
        }
        x.drop();
        due("a ROW that is gone", x.cell(31, 0), -1);
    }

    private static void columns() {
        Checks.says("COLUMNS: 0 X, 1 Y.");
        RowPatterns x = new RowPatterns();
        x.row(5, 6);
        x.row(7, 8);
        due("0", x.cell(0, 0), 5);
        due("1", x.cell(0, 1), 6);
        // A column below or above must not come to a neighbour's number.
        for (int none : new int[] {-1, 2, -2, 3}) {
            due("column " + none, x.cell(1, none), -1);
            due("column " + none, x.cell(0, none), -1);
        }
    }

    private static void feeding() {
        Checks.says("A byte (1 .. 127) comes behind THE TAPE's: how many it has. BAD; FULL.");
        RowPatterns x = new RowPatterns();
        due("0", x.feed(0), -2);
        due("1", x.feed(1), 1);
        due("127", x.feed(127), 2);
        due("128", x.feed(128), -2);
        due("-1", x.feed(-1), -2);
        for (int bad : ENDS) {
            due("byte " + bad, x.feed(bad), -2);
        }
        due("a byte whose lowest eight bits would do", x.feed(256 + 65), -2);
        due("how many", x.told(9), 2);
        x.clear();
        Checks.feed(x, "A".repeat(120));
        due("BAD is named ahead of FULL", x.feed(0), -2);
        due("BAD is named ahead of FULL", x.feed(128), -2);
        due("FULL", x.feed(1), -4);
        due("FULL", x.feed(127), -4);
        x.clear();
        Checks.feed(x, "A|B");
        x.feed(0);
        due("they stand one behind the other", x.pattern(), 3);
        due("the last one", x.part(1, 1), 1);
    }

    private static void tape() {
        Checks.says("THE TAPE holds 0 .. 120 bytes.");
        RowPatterns x = new RowPatterns();
        due("none at first", x.told(9), 0);
        for (int i = 1; i <= 120; i++) {
            due("feed", x.feed(i == 1 ? 'Z' : i == 120 ? 'Y' : 'A'), i);
        }
        due("the 121st", x.feed('B'), -4);
        due("how many", x.told(9), 120);
        due("all 120 are read, and none more", x.pattern(), 121);
        due("the first", x.part(0, 1), 25);
        due("the last", x.part(119, 1), 24);
        due("none is left", x.told(9), 0);
        due("there is room again", x.feed('B'), 1);
        due("the empty one is read", x.pattern() == 1 ? x.pattern() : 0, -100);
    }

    private static void clearing() {
        Checks.says("THE TAPE is empty then: how many bytes it had.");
        RowPatterns x = new RowPatterns();
        due("the empty one", x.clear(), 0);
        x.feed('A');
        due("one byte", x.clear(), 1);
        due("empty then", x.clear(), 0);
        Checks.feed(x, "A".repeat(120));
        x.feed('A');
        due("the full one", x.clear(), 120);
        due("how many then", x.told(9), 0);
        due("feed", x.feed('B'), 1);
        due("nothing of what was there is read", x.pattern(), 1);
        due("the letter", x.part(0, 1), 1);
    }

    private static void modes() {
        Checks.says("MODE: 0 PAST (at first), 1 NEXT, 2 FIRST, 3 LAST; the MODE's LETTER (A at first).");
        RowPatterns x = new RowPatterns();
        due("at first", x.told(3), 0);
        due("its LETTER at first", x.told(4), 0);
        due("to 3", x.mode(3, 0), 0);
        due("to 2", x.mode(2, 0), 3);
        due("to 1", x.mode(1, 0), 2);
        due("to 0", x.mode(0, 0), 1);
        due("4", x.mode(4, 0), -1);
        due("-1", x.mode(-1, 0), -1);
        for (int none : ENDS) {
            due("mode " + none, x.mode(none, 0), -1);
        }
        due("as it was", x.told(3), 0);
        // What each of them does to the same row of matches: ABAB.. over six ROWS.
        x = Checks.table(6, "ABAB");
        String[] want = {"0+4", "0+4 1+4 2+4", "0+4 1+4 2+4", "0+4 2+4"};
        for (int mode = 0; mode < 4; mode++) {
            x.mode(mode, 0);
            Checks.due("mode " + mode, Checks.matches(x), want[mode]);
        }
    }

    private static void modeAnswers() {
        Checks.says("MODE and its LETTER become others: 10 * the LETTER and the MODE that were. NONE: either.");
        RowPatterns x = new RowPatterns();
        due("the first LETTER", x.mode(0, 0), 0);
        due("the last LETTER", x.mode(3, 25), 0);
        due("what was: the most there can be", x.mode(1, 7), 253);
        due("LETTER -1", x.mode(2, -1), -1);
        due("LETTER 26", x.mode(2, 26), -1);
        due("both", x.mode(4, 26), -1);
        for (int none : ENDS) {
            due("LETTER " + none, x.mode(2, none), -1);
            due("MODE " + none, x.mode(none, 9), -1);
        }
        due("the MODE stays", x.told(3), 1);
        due("its LETTER stays", x.told(4), 7);
        due("what was", x.mode(0, 0), 71);
    }

    private static void emptiesAtFirst() {
        Checks.says("EMPTIES count or not (they do at first).");
        RowPatterns x = new RowPatterns();
        due("told", x.told(5), 1);
        Checks.pattern(x, "A*");
        due("an empty match counts", x.run(), 1);
        due("what was", x.empties(0), 1);
        due("it doesn't count", x.run(), 0);
    }

    private static void emptiesAnswers() {
        Checks.says("EMPTIES count (1) or not (0): what was. NONE.");
        RowPatterns x = new RowPatterns();
        due("1 to 1", x.empties(1), 1);
        due("1 to 0", x.empties(0), 1);
        for (int none : new int[] {-1, 2, 256, Checks.LEAST, Checks.LEAST + 1, Checks.MOST - 1, Checks.MOST}) {
            due("on " + none, x.empties(none), -1);
            due("as it was", x.told(5), 0);
        }
        due("0 to 0", x.empties(0), 0);
        due("0 to 1", x.empties(1), 0);
        due("2", x.empties(2), -1);
        due("as it was", x.told(5), 1);
    }

    private static void mayAtFirst() {
        Checks.says("MAY: 1 .. 5000; 5000 at first.");
        RowPatterns x = new RowPatterns();
        due("at first", x.told(6), 5000);
        due("0", x.may(0), -2);
        due("1", x.may(1), 5000);
        due("told", x.told(6), 1);
        due("5000", x.may(5000), 1);
        due("5001", x.may(5001), -2);
        due("told", x.told(6), 5000);
    }

    private static void mayAnswers() {
        Checks.says("MAY becomes n: what it was. BAD.");
        RowPatterns x = new RowPatterns();
        due("77", x.may(77), 5000);
        for (int bad : new int[] {0, -1, 5001, Checks.LEAST, Checks.LEAST + 1, Checks.MOST - 1, Checks.MOST}) {
            due("n " + bad, x.may(bad), -2);
            due("as it was", x.told(6), 77);
        }
        due("to the same", x.may(77), 77);
        due("to another", x.may(78), 77);
    }

    private static void told() {
        Checks.says("7 LETTERS with a CONDITION (bits), 8 ROWS in no MATCH, 9 bytes of THE TAPE. NONE.");
        RowPatterns x = new RowPatterns();
        int[] want = {0, 0, 0, 0, 0, 1, 5000, 0, 0, 0};
        for (int i = 0; i < want.length; i++) {
            due("of a new object " + i, x.told(i), want[i]);
        }
        due("-1", x.told(-1), -1);
        due("10", x.told(10), -1);
        for (int none : ENDS) {
            due("what " + none, x.told(none), -1);
        }
    }

    private static void toldOfTheFull() {
        Checks.says("What 0 ROWS, 1 PARTS, 2 MATCHES, 3 MODE, 4 its LETTER, 5 EMPTIES, 6 MAY,");
        RowPatterns x = full();
        StringBuilder all = new StringBuilder();
        for (char c = 'A'; c <= 'Z'; c++) {
            all.append(all.length() > 0 ? ";" : "").append(c).append("=1=1");
            if (c == 'M') {
                Checks.define(x, all.toString());
                all.setLength(0);
            }
        }
        Checks.define(x, all.toString());
        Checks.pattern(x, "A?" + "B{0,1}".repeat(19));
        x.mode(3, 25);
        x.empties(0);
        x.may(4999);
        Checks.feed(x, "A".repeat(120));
        int[] want = {32, 41, 0, 3, 25, 0, 4999, (1 << 26) - 1, 32, 120};
        for (int i = 0; i < want.length; i++) {
            due("what " + i, x.told(i), want[i]);
        }
        x.clear();
        Checks.pattern(x, "A");
        due("run", x.run(), 32);
        due("MATCHES", x.told(2), 32);
        due("ROWS in no MATCH", x.told(8), 0);
    }
}
