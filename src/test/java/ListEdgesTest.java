/** The edges of LISTS; beside each test its sentence. */
public final class ListEdgesTest {
    private static final int[] ENDS = {Checks.LEAST, Checks.LEAST + 1, Checks.MOST - 1, Checks.MOST};

    public static void main(String[] args) {
        listsAtFirst();
        zeroToForty();
        listAnswers();
        putAnswers();
        longsOwnEnds();
        getAnswers();
        moveAnswers();
        moveBeyond();
        moveWrapsAround();
        moveAsTheyWere();
        moveRefusedMovesNothing();
        layAnswers();
        layNotAll();
        layBelow();
        layWithoutMatches();
        layManyMatches();
        layNo();
        judgeAnswers();
        judgeFirst();
        judgeEnds();
        judgeBelow();
        judgeWithoutMatches();
        Checks.end();
    }

    private static void due(String what, long got, long want) {
        Checks.due(what, got, want);
    }

    /** Three MATCHES of one ROW each, with X 11, 12, 13, and a LIST 0 of so many longs. */
    private static RowPatterns three(int size) {
        RowPatterns x = Checks.rows(11, 12, 13);
        Checks.pattern(x, "A");
        due("run", x.run(), 3);
        due("list", x.list(0, size), 1);
        return x;
    }

    private static void listsAtFirst() {
        Checks.says("LISTS 0 .. 3 hold nothing (at first)");
        RowPatterns x = new RowPatterns();
        for (int list = 0; list < 4; list++) {
            due("put", x.put(list, 0, 1), -11);
            due("get", x.get(list, 0), Checks.NO);
            due("move", x.move(list, 0, list, 0, 0), -11);
            due("lay", x.lay(list, 0, 0, 0, 0), -11);
            due("judge", x.judge(list, 0, 0, 0, 0), -11);
        }
        for (int none : new int[] {-1, 4}) {
            due("put", x.put(none, 0, 1), -1);
            due("get", x.get(none, 0), Checks.NO);
            due("move", x.move(none, 0, none, 0, 0), -1);
            due("lay", x.lay(none, 0, 0, 0, 0), -1);
            due("judge", x.judge(none, 0, 0, 0, 0), -1);
            due("list", x.list(none, 0), -1);
        }
        for (int list = 0; list < 4; list++) {
            due("list", x.list(list, list), 1);
            due("behind its last", x.put(list, list, 1), -13);
            due("its last", x.put(list, list - 1, list), list == 0 ? -13 : 1);
        }
        due("each has its own", x.get(3, 2), 3);
        due("each has its own", x.get(2, 1), 2);
        due("each has its own", x.get(1, 0), 1);
    }

    private static void zeroToForty() {
        Checks.says("or a row of 0 .. 40 longs.");
        RowPatterns x = new RowPatterns();
        due("40", x.list(0, 40), 1);
        due("the last", x.put(0, 39, 7), 1);
        due("the last", x.get(0, 39), 7);
        due("behind the last", x.put(0, 40, 7), -13);
        due("behind the last", x.get(0, 40), Checks.NO);
        due("41", x.list(0, 41), -2);
        due("it stays", x.get(0, 39), 7);
        due("0", x.list(0, 0), 1);
        due("no first", x.put(0, 0, 7), -13);
        due("no first", x.get(0, 0), Checks.NO);
        due("it is held", x.move(0, 0, 0, 0, 0), 0);
        due("1", x.list(0, 1), 1);
        due("the first", x.put(0, 0, 7), 1);
        due("no second", x.put(0, 1, 7), -13);
    }

    private static void listAnswers() {
        Checks.says("A LIST becomes a row of n longs, all 0: 1. NONE: list; BAD: n above 40; BELOW.");
        RowPatterns x = new RowPatterns();
        due("40", x.list(3, 40), 1);
        for (int i = 0; i < 40; i++) {
            due("put", x.put(3, i, i + 1), 1);
        }
        due("41", x.list(3, 41), -2);
        due("-1", x.list(3, -1), -14);
        for (int n : new int[] {Checks.MOST, Checks.MOST - 1, 100}) {
            due("n " + n, x.list(3, n), -2);
        }
        for (int n : new int[] {Checks.LEAST, Checks.LEAST + 1, -2}) {
            due("n " + n, x.list(3, n), -14);
        }
        for (int none : ENDS) {
            due("list " + none, x.list(none, 3), -1);
            due("NONE is named first", x.list(none, none), -1);
        }
        due("NONE is named ahead of BAD", x.list(4, 41), -1);
        due("NONE is named ahead of BELOW", x.list(-1, -1), -1);
        due("as it was", x.get(3, 39), 40);
        due("again", x.list(3, 40), 1);
        for (int i = 0; i < 40; i++) {
            due("all 0", x.get(3, i), 0);
        }
        due("a refused one makes none", x.list(2, 41), -2);
        due("a refused one makes none", x.list(2, -1), -14);
        due("it holds nothing", x.put(2, 0, 1), -11);
        // What a longer one had is not there when it is longer again.
        x.put(3, 39, 5);
        x.list(3, 1);
        x.list(3, 40);
        due("all 0", x.get(3, 39), 0);
    }

    private static void putAnswers() {
        Checks.says("Place i of a LIST becomes v: 1. NONE; NOTHING; BEYOND.");
        RowPatterns x = new RowPatterns();
        x.list(1, 3);
        due("the first", x.put(1, 0, 5), 1);
        due("the last", x.put(1, 2, 6), 1);
        due("behind the last", x.put(1, 3, 7), -13);
        due("below the first", x.put(1, -1, 7), -13);
        for (int i : ENDS) {
            due("place " + i, x.put(1, i, 7), -13);
            due("list " + i, x.put(i, 0, 7), -1);
            due("NONE is named first", x.put(i, i, 7), -1);
            due("NOTHING is named ahead of BEYOND", x.put(0, i, 7), -11);
        }
        due("NOTHING is named ahead of BEYOND", x.put(0, -1, 7), -11);
        Checks.due("as it was", Checks.longs(x, 1, 3), "5 0 6");
        due("to the same", x.put(1, 0, 5), 1);
        due("to another", x.put(1, 0, -5), 1);
        Checks.due("it alone", Checks.longs(x, 1, 3), "-5 0 6");
    }

    private static void longsOwnEnds() {
        Checks.says("Place i of a LIST becomes v: 1.");
        RowPatterns x = new RowPatterns();
        x.list(0, 4);
        long[] ends = {Long.MIN_VALUE, Long.MAX_VALUE, Long.MIN_VALUE + 1, -1L};
        for (int i = 0; i < ends.length; i++) {
            due("put " + ends[i], x.put(0, i, ends[i]), 1);
            due("get", x.get(0, i), ends[i]);
        }
        x.list(1, 4);
        due("move", x.move(0, 0, 1, 0, 4), 4);
        for (int i = 0; i < ends.length; i++) {
            due("moved", x.get(1, i), ends[i]);
        }
        due("an int's end and one more", x.put(0, 0, 1L + Checks.MOST), 1);
        due("it is kept whole", x.get(0, 0), 2147483648L);
    }

    private static void getAnswers() {
        Checks.says("Place i of a LIST. NO: no such LIST, nothing there, no such place.");
        RowPatterns x = new RowPatterns();
        x.list(1, 2);
        x.put(1, 1, 9);
        due("the first", x.get(1, 0), 0);
        due("the last", x.get(1, 1), 9);
        due("behind the last", x.get(1, 2), Checks.NO);
        due("below the first", x.get(1, -1), Checks.NO);
        due("nothing there", x.get(0, 0), Checks.NO);
        due("no such LIST", x.get(4, 0), Checks.NO);
        due("no such LIST", x.get(-1, 0), Checks.NO);
        for (int i : ENDS) {
            due("place " + i, x.get(1, i), Checks.NO);
            due("list " + i, x.get(i, 0), Checks.NO);
            due("both " + i, x.get(i, i), Checks.NO);
        }
        // A row of longs that was longer has no more than it has now.
        x.list(1, 1);
        due("no longer there", x.get(1, 1), Checks.NO);
    }

    private static RowPatterns two() {
        RowPatterns x = new RowPatterns();
        x.list(0, 5);
        x.list(1, 3);
        for (int i = 0; i < 5; i++) {
            x.put(0, i, i + 1);
        }
        for (int i = 0; i < 3; i++) {
            x.put(1, i, 10 * i + 10);
        }
        return x;
    }

    private static void moveAnswers() {
        Checks.says("as they all were before: n. NONE: lists; NOTHING;");
        RowPatterns x = two();
        due("none of them", x.move(0, 0, 1, 0, 0), 0);
        due("one", x.move(0, 4, 1, 2, 1), 1);
        Checks.due("moved", Checks.longs(x, 1, 3), "10 20 5");
        due("all of the other", x.move(0, 1, 1, 0, 3), 3);
        Checks.due("moved", Checks.longs(x, 1, 3), "2 3 4");
        Checks.due("they stay in the first", Checks.longs(x, 0, 5), "1 2 3 4 5");
        due("list -1", x.move(-1, 0, 1, 0, 1), -1);
        due("list 4", x.move(4, 0, 1, 0, 1), -1);
        due("other -1", x.move(0, 0, -1, 0, 1), -1);
        due("other 4", x.move(0, 0, 4, 0, 1), -1);
        due("NONE is named ahead of NOTHING", x.move(2, 0, 4, 0, 1), -1);
        due("NONE is named ahead of NOTHING", x.move(4, 0, 2, 0, 1), -1);
        due("NOTHING in the first", x.move(2, 0, 1, 0, 0), -11);
        due("NOTHING in the other", x.move(0, 0, 2, 0, 0), -11);
        due("NOTHING is named ahead of BEYOND", x.move(2, 0, 1, 0, -1), -11);
        due("NOTHING is named ahead of BEYOND", x.move(0, 9, 2, 9, 9), -11);
        for (int none : ENDS) {
            due("list " + none, x.move(none, 0, 1, 0, 1), -1);
            due("other " + none, x.move(0, 0, none, 0, 1), -1);
            due("all " + none, x.move(none, none, none, none, none), -1);
        }
        x.list(2, 40);
        x.list(3, 40);
        x.put(2, 39, 8);
        due("forty", x.move(2, 0, 3, 0, 40), 40);
        due("the last of forty", x.get(3, 39), 8);
        due("41", x.move(2, 0, 3, 0, 41), -13);
    }

    private static void moveBeyond() {
        Checks.says("BEYOND: n, i or j is below 0, or beyond either's end.");
        RowPatterns x = two();
        due("n -1", x.move(0, 0, 1, 0, -1), -13);
        due("i -1", x.move(0, -1, 1, 0, 1), -13);
        due("j -1", x.move(0, 0, 1, -1, 1), -13);
        due("i -1, none of them", x.move(0, -1, 1, 0, 0), -13);
        due("j -1, none of them", x.move(0, 0, 1, -1, 0), -13);
        due("to the first's end", x.move(0, 2, 1, 0, 3), 3);
        due("beyond the first's end", x.move(0, 3, 1, 0, 3), -13);
        due("to the other's end", x.move(0, 0, 1, 1, 2), 2);
        due("beyond the other's end", x.move(0, 0, 1, 2, 2), -13);
        due("more than the other has", x.move(0, 0, 1, 0, 4), -13);
        due("more than the first has", x.move(1, 0, 0, 0, 4), -13);
        due("none of them at the first's end", x.move(0, 5, 1, 0, 0), 0);
        due("none of them at the other's end", x.move(0, 0, 1, 3, 0), 0);
        due("none of them beyond the first's end", x.move(0, 6, 1, 0, 0), -13);
        due("none of them beyond the other's end", x.move(0, 0, 1, 4, 0), -13);
        x.list(2, 0);
        due("none of an empty one", x.move(2, 0, 2, 0, 0), 0);
        due("one of an empty one", x.move(2, 0, 0, 0, 1), -13);
        due("one to an empty one", x.move(0, 0, 2, 0, 1), -13);
        due("none beyond an empty one", x.move(2, 1, 0, 0, 0), -13);
    }

    private static void moveWrapsAround() {
        Checks.says("n longs of a LIST from i on come to another one (or the same) from j on,");
        RowPatterns x = two();
        int[][] beyond = {{Checks.MOST, 0, 1}, {0, Checks.MOST, 1}, {0, 0, Checks.MOST}, {1, 1, Checks.MOST},
            {Checks.MOST, Checks.MOST, Checks.MOST}, {Checks.MOST, 0, 0}, {0, Checks.MOST, 0}, {Checks.LEAST, 0, 0},
            {0, Checks.LEAST, 0}, {0, 0, Checks.LEAST}, {Checks.LEAST, Checks.LEAST, Checks.LEAST}, {Checks.LEAST, 0, Checks.LEAST},
            {Checks.MOST, Checks.MOST, Checks.LEAST}, {Checks.MOST, 1, 2}, {Checks.MOST - 1, 0, 3}, {0, Checks.MOST - 1, 3},
            {Checks.LEAST, Checks.LEAST, Checks.MOST}, {3, 3, Checks.MOST - 2}};
        for (int[] one : beyond) {
            due("from " + one[0] + " to " + one[1] + ", " + one[2], x.move(0, one[0], 1, one[1], one[2]), -13);
            due("within one, from " + one[0] + " to " + one[1] + ", " + one[2], x.move(0, one[0], 0, one[1], one[2]), -13);
        }
        Checks.due("as it was", Checks.longs(x, 0, 5), "1 2 3 4 5");
        Checks.due("as it was", Checks.longs(x, 1, 3), "10 20 30");
    }

    private static void moveAsTheyWere() {
        Checks.says("(or the same) from j on, as they all were before: n.");
        RowPatterns x = two();
        due("up by one", x.move(0, 0, 0, 1, 4), 4);
        Checks.due("as they were", Checks.longs(x, 0, 5), "1 1 2 3 4");
        x = two();
        due("down by one", x.move(0, 1, 0, 0, 4), 4);
        Checks.due("as they were", Checks.longs(x, 0, 5), "2 3 4 5 5");
        x = two();
        due("to where they are", x.move(0, 0, 0, 0, 5), 5);
        Checks.due("as they were", Checks.longs(x, 0, 5), "1 2 3 4 5");
        due("up by two", x.move(0, 0, 0, 2, 3), 3);
        Checks.due("as they were", Checks.longs(x, 0, 5), "1 2 1 2 3");
    }

    private static void moveRefusedMovesNothing() {
        Checks.says("What is answered so changes nothing;");
        RowPatterns x = two();
        due("beyond the other's end", x.move(0, 0, 1, 1, 3), -13);
        due("beyond the first's end", x.move(1, 1, 0, 0, 3), -13);
        due("beyond its own end", x.move(0, 0, 0, 1, 5), -13);
        due("put beyond", x.put(1, 3, 9), -13);
        due("list of too many", x.list(1, 41), -2);
        due("list of too few", x.list(1, -1), -14);
        Checks.due("as it was", Checks.longs(x, 0, 6), "1 2 3 4 5 " + Checks.NO);
        Checks.due("as it was", Checks.longs(x, 1, 4), "10 20 30 " + Checks.NO);
    }

    private static void layAnswers() {
        Checks.says("A MEASURE of each MATCH is LAID into a LIST from i on (NO as such): how many were. NONE: list, letter, column, measure; NOTHING;");
        RowPatterns x = three(5);
        due("from the first place", x.lay(0, 0, 0, 0, 1), 3);
        Checks.due("laid", Checks.longs(x, 0, 5), "11 12 13 0 0");
        due("to the last place", x.lay(0, 2, 26, 0, 1), 3);
        Checks.due("laid", Checks.longs(x, 0, 5), "11 12 11 12 13");
        due("letter -1", x.lay(0, 0, -1, 0, 0), -1);
        due("letter 25", x.lay(0, 0, 25, 0, 0), 3);
        due("letter 26", x.lay(0, 0, 26, 1, 1), 3);
        due("letter 27", x.lay(0, 0, 27, 0, 0), -1);
        due("column -1", x.lay(0, 0, 0, -1, 0), -1);
        due("column 2", x.lay(0, 0, 0, 2, 0), -1);
        due("measure -1", x.lay(0, 0, 0, 0, -1), -1);
        due("measure 6", x.lay(0, 0, 0, 0, 6), 3);
        due("measure 7", x.lay(0, 0, 0, 0, 7), -1);
        due("list -1", x.lay(-1, 0, 0, 0, 0), -1);
        due("list 4", x.lay(4, 0, 0, 0, 0), -1);
        due("NOTHING", x.lay(1, 0, 0, 0, 0), -11);
        due("NONE is named ahead of NOTHING: letter", x.lay(1, 0, 27, 0, 0), -1);
        due("NONE is named ahead of NOTHING: column", x.lay(1, 0, 0, 2, 0), -1);
        due("NONE is named ahead of NOTHING: measure", x.lay(1, 0, 0, 0, 7), -1);
        due("NOTHING is named ahead of BEYOND", x.lay(1, -1, 0, 0, 0), -11);
        due("NONE is named ahead of BEYOND", x.lay(0, -1, 27, 0, 0), -1);
        for (int none : ENDS) {
            due("list " + none, x.lay(none, 0, 0, 0, 0), -1);
            due("place " + none, x.lay(0, none, 0, 0, 0), -13);
            due("letter " + none, x.lay(0, 0, none, 0, 0), -1);
            due("column " + none, x.lay(0, 0, 0, none, 0), -1);
            due("measure " + none, x.lay(0, 0, 0, 0, none), -1);
            due("all " + none, x.lay(none, none, none, none, none), -1);
        }
        Checks.due("as it was", Checks.longs(x, 0, 5), "11 12 13 12 13");
    }

    private static void layNotAll() {
        Checks.says("BEYOND: not all were (those that had a place are there all the same;");
        RowPatterns x = three(4);
        due("two have a place", x.lay(0, 2, 0, 0, 1), -13);
        Checks.due("they are there", Checks.longs(x, 0, 4), "0 0 11 12");
        x.list(0, 4);
        due("one has a place", x.lay(0, 3, 0, 0, 1), -13);
        Checks.due("it is there", Checks.longs(x, 0, 4), "0 0 0 11");
        due("all have a place", x.lay(0, 1, 0, 0, 1), 3);
        Checks.due("they are there", Checks.longs(x, 0, 4), "0 11 12 13");
        due("none has a place", x.lay(0, 4, 26, 1, 0), -13);
        due("none has a place", x.lay(0, 5, 26, 1, 0), -13);
        due("none has a place", x.lay(0, Checks.MOST, 26, 1, 0), -13);
        due("none has a place", x.lay(0, Checks.MOST - 1, 26, 1, 0), -13);
        Checks.due("as it was", Checks.longs(x, 0, 4), "0 11 12 13");
        x.list(0, 0);
        due("an empty LIST", x.lay(0, 0, 0, 0, 1), -13);
    }

    private static void layBelow() {
        Checks.says("(those that had a place are there all the same; none, if i is below 0).");
        RowPatterns x = three(4);
        for (int i : new int[] {-1, -2, -3, -4, Checks.LEAST, Checks.LEAST + 1}) {
            due("from " + i, x.lay(0, i, 0, 0, 1), -13);
            Checks.due("none is there", Checks.longs(x, 0, 4), "0 0 0 0");
        }
    }

    private static void layWithoutMatches() {
        Checks.says("how many were.");
        RowPatterns x = Checks.rows(11, 12);
        Checks.pattern(x, "A");
        x.list(0, 2);
        x.put(0, 0, 7);
        due("without a run", x.lay(0, 0, 0, 0, 1), 0);
        Checks.pattern(x, "AAA");
        due("run", x.run(), 0);
        due("without MATCHES", x.lay(0, 1, 0, 0, 1), 0);
        due("behind the last place", x.lay(0, 2, 0, 0, 1), 0);
        due("NONE all the same", x.lay(0, 0, 27, 0, 1), -1);
        due("NOTHING all the same", x.lay(1, 0, 0, 0, 1), -11);
        Checks.due("as it was", Checks.longs(x, 0, 2), "7 0");
        x.list(0, 0);
        due("none into none", x.lay(0, 0, 0, 0, 1), 0);
    }

    private static void layManyMatches() {
        Checks.says("LAID into a LIST from a place on: a MEASURE of each MATCH, until a place isn't there.");
        RowPatterns x = Checks.table(32, "A?");
        due("as many MATCHES as there can be", x.run(), 33);
        x.list(0, 40);
        due("to the last place", x.lay(0, 7, 26, 0, 1), 33);
        due("ahead of the first", x.get(0, 6), 0);
        due("the second", x.get(0, 8), 1);
        due("the last with a ROW", x.get(0, 38), 31);
        due("judged so", x.judge(0, 7, 26, 0, 1), -5);
        x.list(0, 40);
        due("one has no place", x.lay(0, 8, 26, 0, 1), -13);
        due("the last that had one", x.get(0, 39), 31);
        due("judged so far", x.judge(0, 8, 26, 0, 1), 132);
        x.list(1, 33);
        due("just so many places", x.lay(1, 0, 26, 0, 0), 33);
        due("the last has no ROW", x.get(1, 32), 0);
        x.list(1, 32);
        due("one place too few", x.lay(1, 0, 26, 0, 0), -13);
        due("the last place", x.get(1, 31), 1);
    }

    private static void layNo() {
        Checks.says("(NO as such)");
        RowPatterns x = three(3);
        due("nothing to measure", x.lay(0, 0, 5, 0, 2), 3);
        for (int i = 0; i < 3; i++) {
            due("laid", x.get(0, i), Checks.NO);
        }
        due("judged so", x.judge(0, 0, 5, 0, 2), -5);
        due("a 0 is another", x.judge(0, 0, 5, 0, 1), 0);
        x.put(0, 2, 0);
        due("NO is not 0", x.judge(0, 0, 5, 0, 2), 2);
        due("put as a long's least", x.put(0, 2, Long.MIN_VALUE), 1);
        due("judged so", x.judge(0, 0, 5, 0, 2), -5);
    }

    private static void judgeAnswers() {
        Checks.says("JUDGED by a LIST from i on. NONE likewise; NOTHING.");
        RowPatterns x = three(4);
        x.lay(0, 1, 0, 0, 1);
        due("as laid", x.judge(0, 1, 0, 0, 1), -5);
        due("list -1", x.judge(-1, 1, 0, 0, 1), -1);
        due("list 4", x.judge(4, 1, 0, 0, 1), -1);
        due("letter -1", x.judge(0, 1, -1, 0, 1), -1);
        due("letter 26", x.judge(0, 1, 26, 0, 1), -5);
        due("letter 27", x.judge(0, 1, 27, 0, 1), -1);
        due("column -1", x.judge(0, 1, 0, -1, 1), -1);
        due("column 1", x.judge(0, 1, 0, 1, 1), 0);
        due("column 2", x.judge(0, 1, 0, 2, 1), -1);
        due("measure -1", x.judge(0, 1, 0, 0, -1), -1);
        due("measure 6", x.judge(0, 1, 0, 0, 6), -5);
        due("measure 7", x.judge(0, 1, 0, 0, 7), -1);
        due("NOTHING", x.judge(1, 0, 0, 0, 1), -11);
        due("NONE is named ahead of NOTHING", x.judge(1, 0, 27, 0, 1), -1);
        due("NONE is named ahead of NOTHING", x.judge(1, 0, 0, 2, 1), -1);
        due("NONE is named ahead of NOTHING", x.judge(1, 0, 0, 0, 7), -1);
        due("NOTHING, also below 0", x.judge(1, -1, 0, 0, 1), -11);
        due("NONE, also below 0", x.judge(0, -1, 27, 0, 1), -1);
        for (int none : ENDS) {
            due("list " + none, x.judge(none, 1, 0, 0, 1), -1);
            due("letter " + none, x.judge(0, 1, none, 0, 1), -1);
            due("column " + none, x.judge(0, 1, 0, none, 1), -1);
            due("measure " + none, x.judge(0, 1, 0, 0, none), -1);
            due("place " + none, x.judge(0, none, 0, 0, 1), 100);
            due("all " + none, x.judge(none, none, none, none, none), -1);
        }
        Checks.due("it changes nothing", Checks.longs(x, 0, 4), "0 11 12 13");
    }

    private static void judgeFirst() {
        Checks.says("JUDGED: the first MATCH whose MEASURE is not what the LIST has there, from a place on; -5: none;");
        RowPatterns x = three(4);
        x.lay(0, 0, 0, 0, 1);
        due("none", x.judge(0, 0, 0, 0, 1), -5);
        x.put(0, 2, 0);
        due("the last", x.judge(0, 0, 0, 0, 1), 2);
        x.put(0, 1, 0);
        due("the second, ahead of the last", x.judge(0, 0, 0, 0, 1), 1);
        x.put(0, 0, 0);
        due("the first", x.judge(0, 0, 0, 0, 1), 0);
        x.put(0, 0, 11L + (1L << 32));
        due("alike in an int's bits alone", x.judge(0, 0, 0, 0, 1), 0);
        x.lay(0, 1, 0, 0, 1);
        due("from another place", x.judge(0, 1, 0, 0, 1), -5);
        x.put(0, 3, 14);
        due("what is unlike ahead of the row's end", x.judge(0, 1, 0, 0, 1), 2);
    }

    private static void judgeEnds() {
        Checks.says("100 and how many were looked at, if the row ends ahead of that (or the place is below 0).");
        RowPatterns x = three(4);
        x.lay(0, 2, 0, 0, 1);
        due("behind two", x.judge(0, 2, 0, 0, 1), 102);
        x.lay(0, 3, 0, 0, 1);
        due("behind one", x.judge(0, 3, 0, 0, 1), 101);
        due("at once", x.judge(0, 4, 0, 0, 1), 100);
        due("at once", x.judge(0, 5, 0, 0, 1), 100);
        due("at once", x.judge(0, Checks.MOST, 0, 0, 1), 100);
        due("at once", x.judge(0, Checks.MOST - 1, 0, 0, 1), 100);
        x.put(0, 3, 0);
        due("unlike ahead of the end", x.judge(0, 3, 0, 0, 1), 0);
        x.list(0, 0);
        due("of an empty LIST", x.judge(0, 0, 0, 0, 1), 100);
        x.list(0, 3);
        x.lay(0, 0, 0, 0, 1);
        due("just to its end", x.judge(0, 0, 0, 0, 1), -5);
    }

    private static void judgeBelow() {
        Checks.says("(or the place is below 0).");
        RowPatterns x = three(4);
        x.lay(0, 0, 0, 0, 1);
        for (int i : new int[] {-1, -2, -3, -40, Checks.LEAST, Checks.LEAST + 1}) {
            due("from " + i, x.judge(0, i, 0, 0, 1), 100);
        }
    }

    private static void judgeWithoutMatches() {
        Checks.says("judge() without MATCHES: -5, whatever i is.");
        RowPatterns x = Checks.rows(1);
        x.list(0, 2);
        for (int i : new int[] {0, 1, 2, 3, -1, Checks.LEAST, Checks.MOST}) {
            due("from " + i, x.judge(0, i, 0, 0, 1), -5);
        }
        x.list(0, 0);
        due("by an empty LIST", x.judge(0, 0, 0, 0, 1), -5);
        due("NONE all the same", x.judge(0, 0, 27, 0, 1), -1);
        due("NOTHING all the same", x.judge(1, 0, 0, 0, 1), -11);
    }
}
