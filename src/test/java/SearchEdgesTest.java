/** The edges of WAYS, TRIES and what a search answers; beside each test its sentence. */
public final class SearchEdgesTest {
    private static final int[] ENDS = {Checks.LEAST, Checks.LEAST + 1, Checks.MOST - 1, Checks.MOST};

    public static void main(String[] args) {
        starts();
        letterAtARow();
        front();
        end();
        oneBehindTheOther();
        alternatives();
        anyOrder();
        anyOrderAndMay();
        tryBehindTheLast();
        timeThatDoesNothing();
        belowTheLeast();
        atTheMost();
        withoutAMost();
        moreAndLess();
        chosenLast();
        preferredIsTheFirst();
        tooMuch();
        tooMuchOfOne();
        tooMuchOfFiveThousand();
        inOneSearch();
        firstAnswers();
        triesAnswers();
        wayAnswers();
        waysAnswers();
        spansAnswers();
        fitsAnswers();
        fitsEndsTheSearch();
        stateBehindNone();
        Checks.end();
    }

    private static void due(String what, long got, long want) {
        Checks.due(what, got, want);
    }

    /** The PREFERRED WAY and the TRIES of a pattern over an object's ROWS. */
    private static void takes(RowPatterns x, String pattern, int start, String want, int tries) {
        due("pattern " + pattern, Checks.pattern(x, pattern) > 0 ? 1 : 0, 1);
        Checks.due(pattern + " from " + start, Checks.preferred(x, start), want);
        due("TRIES of " + pattern + " from " + start, x.tries(start), tries);
        // Just so many are enough, and one fewer are not.
        x.may(tries);
        Checks.due(pattern + " with just enough", Checks.preferred(x, start), want);
        if (tries > 1) {
            x.may(tries - 1);
            due(pattern + " with one too few", x.first(start), -7);
        }
        x.may(5000);
    }

    private static void starts() {
        Checks.says("A WAY from a START (0 .. how many ROWS there are)");
        for (int size : new int[] {0, 1, 3, 31, 32}) {
            RowPatterns x = Checks.table(size, "A*");
            due("the first START of " + size, x.first(0), size);
            due("the last START of " + size, x.first(size), 0);
            due("tries", x.tries(size), 2);
            due("way", x.way(size, 0), -5);
            due("ways", x.ways(size), 1);
            due("spans", x.spans(size, 1), 0);
            due("fits", x.fits(size, size), 1);
            for (int none : new int[] {-1, size + 1, size + 2}) {
                due("first", x.first(none), -1);
                due("tries", x.tries(none), -1);
                due("way", x.way(none, 0), -1);
                due("ways", x.ways(none), -1);
                due("spans", x.spans(none, 0), -1);
                due("fits", x.fits(none, size), -1);
                due("fits", x.fits(none, none), -1);
            }
        }
    }

    private static void letterAtARow() {
        Checks.says("A LETTER (a TRY): if there is a ROW at PLACE and its CONDITION holds there, it is the LETTER of that ROW, and PLACE is 1 more; otherwise this fails.");
        RowPatterns x = Checks.rows(1, 2, 3);
        takes(x, "A", 0, "A", 1);
        takes(x, "A", 2, "A", 1);
        takes(x, "A", 3, "-5", 1);
        takes(x, "AB", 2, "-5", 2);
        takes(x, "ABC", 0, "ABC", 3);
        takes(x, "ABCD", 0, "-5", 4);
        Checks.define(x, "B=x=3");
        takes(x, "B", 2, "B", 1);
        takes(x, "B", 1, "-5", 1);
        takes(x, "BA", 1, "-5", 1);
        takes(new RowPatterns(), "A", 0, "-5", 1);
    }

    private static void front() {
        Checks.says("^ (a TRY): fails, unless PLACE is 0.");
        RowPatterns x = Checks.rows(1, 2);
        takes(x, "^", 0, "", 1);
        takes(x, "^", 1, "-5", 1);
        takes(x, "^", 2, "-5", 1);
        takes(x, "^^A", 0, "A", 3);
        takes(x, "A^", 0, "-5", 2);
        takes(x, "A?^", 0, "", 5);
        takes(new RowPatterns(), "^", 0, "", 1);
    }

    private static void end() {
        Checks.says("$ (a TRY): fails, unless PLACE is how many ROWS there are.");
        RowPatterns x = Checks.rows(1, 2);
        takes(x, "$", 2, "", 1);
        takes(x, "$", 1, "-5", 1);
        takes(x, "$", 0, "-5", 1);
        takes(x, "AB$", 0, "AB", 3);
        takes(x, "A$", 0, "-5", 2);
        takes(x, "$A", 2, "-5", 2);
        takes(new RowPatterns(), "$^$", 0, "", 3);
        x.drop();
        takes(x, "A$", 0, "A", 2);
    }

    private static void oneBehindTheOther() {
        Checks.says("Parts one behind the other: one comes to them in that order.");
        RowPatterns x = Checks.rows(1, 2, 3);
        takes(x, "ABC", 0, "ABC", 3);
        takes(x, "(AB)C", 0, "ABC", 3);
        takes(x, "A(BC)", 0, "ABC", 3);
        takes(x, "CBA", 0, "CBA", 3);
        // No TRY of their own: so many as there are LETTERS.
        takes(x, "((A(B))C)", 0, "ABC", 3);
    }

    private static void alternatives() {
        Checks.says("Alternatives (a TRY): one comes to the first, then to the next, and so on.");
        RowPatterns x = Checks.rows(1, 2);
        takes(x, "A|B|C", 0, "A", 2);
        due("ways", x.ways(0), 3);
        Checks.define(x, "A=x=9");
        takes(x, "A|B|C", 0, "B", 3);
        due("ways", x.ways(0), 2);
        Checks.define(x, "B=x=9");
        takes(x, "A|B|C", 0, "C", 4);
        Checks.define(x, "C=x=9");
        takes(x, "A|B|C", 0, "-5", 4);
        due("ways", x.ways(0), 0);
        Checks.define(x, "A=;B=;C=");
        takes(x, "(A|B)(C|D)", 0, "AC", 4);
        due("ways", x.ways(0), 4);
    }

    private static void anyOrder() {
        Checks.says("Parts in any order (%; a TRY first, and again behind each part done): one comes to the first of those that aren't done, then to the next of these, and so on; if all are done, so is this.");
        RowPatterns x = Checks.rows(1, 2, 3, 4);
        takes(x, "%(A,B)", 0, "AB", 5);
        due("ways of two", x.ways(0), 2);
        takes(x, "%(A,B,C)", 0, "ABC", 7);
        due("ways of three", x.ways(0), 6);
        takes(x, "%(A,B,C,D)", 0, "ABCD", 9);
        due("ways of four", x.ways(0), 24);
        // %, A, %, B fails; B, %, A fails.
        takes(x, "%(A,B)", 3, "-5", 7);
        Checks.define(x, "A=x=2;B=x=1");
        // %, A, B, %, A, %: the second of them first.
        takes(x, "%(A,B)", 0, "BA", 6);
        Checks.define(x, "A=x=4;B=x=3;C=x=2;D=x=1");
        // 1 A B C D, 1 A B C, 1 A B, 1 A, 1.
        takes(x, "%(A,B,C,D)", 0, "DCBA", 15);
        due("ways", x.ways(0), 1);
        Checks.define(x, "A=;B=;C=;D=");
        takes(x, "%(A?,B?)", 4, "", 7);
        takes(x, "%(%(A,B),C)", 0, "ABC", 9);
        due("ways", x.ways(0), 4);
    }

    private static void anyOrderAndMay() {
        Checks.says("In TRIES, % has one behind its last part, too,");
        RowPatterns x = Checks.rows(1, 2);
        Checks.pattern(x, "%(A,B)");
        due("tries", x.tries(0), 5);
        x.may(5);
        due("with the one behind the last", x.first(0), 2);
        x.may(4);
        due("without it", x.first(0), -7);
    }

    private static void tryBehindTheLast() {
        Checks.says("as a REPETITION behind its last time.");
        RowPatterns x = Checks.rows(1, 2);
        takes(x, "A{2}", 0, "AA", 5);
        takes(x, "A{1}", 0, "A", 3);
        takes(x, "A?", 0, "A", 3);
        takes(x, "A{2}?", 0, "AA", 5);
        Checks.pattern(x, "A{2}");
        x.may(5);
        due("with the one behind the last", x.first(0), 2);
        x.may(4);
        due("without it", x.first(0), -7);
    }

    private static void timeThatDoesNothing() {
        Checks.says("if k is above l, and PLACE is where the latest time began, this fails;");
        RowPatterns x = Checks.rows(1, 2);
        // At the end an A? does nothing: the time above the least fails, up to the least it is done.
        takes(x, "(A?)*", 2, "", 4);
        takes(x, "(A?)+", 2, "", 7);
        takes(x, "(A?){1}", 2, "", 4);
        takes(x, "(A?){2,}", 2, "", 10);
        takes(x, "(A?){3}", 2, "", 10);
        takes(x, "^*", 0, "", 3);
        takes(x, "^+", 0, "", 5);
        takes(x, "^{2,5}", 0, "", 7);
        // A time that has a ROW doesn't fail above the least.
        takes(x, "(A?)*", 1, "A", 8);
        takes(x, "(A|^)*", 0, "AA", 10);
        // Less: what does nothing fails there, too.
        takes(x, "(A??)*?$", 1, "A", 8);
        due("only the time done without a ROW is left out", Checks.pattern(x, "^??") > 0 ? x.ways(0) : 0, 1);
        due("up to the least it stays", Checks.pattern(x, "^{1,2}") > 0 ? x.ways(0) : 0, 1);
    }

    private static void belowTheLeast() {
        Checks.says("if k is below l: once more;");
        RowPatterns x = Checks.rows(1, 2, 3);
        takes(x, "A{2,}", 0, "AAA", 8);
        takes(x, "A{2,}", 1, "AA", 6);
        takes(x, "A{2,}", 2, "-5", 4);
        takes(x, "A{2,}?", 0, "AA", 5);
        takes(x, "A{3}", 0, "AAA", 7);
        takes(x, "A{3}", 1, "-5", 6);
        takes(x, "A+?", 0, "A", 3);
        takes(x, "A+?", 3, "-5", 2);
        due("the fewest", Checks.pattern(x, "A{2,}") > 0 ? x.spans(0, 0) : 0, 2);
    }

    private static void atTheMost() {
        Checks.says("if k is m: no more;");
        RowPatterns x = Checks.rows(1, 2, 3);
        takes(x, "A?", 0, "A", 3);
        takes(x, "A{0,2}", 0, "AA", 5);
        takes(x, "A{2}", 0, "AA", 5);
        takes(x, "A{1,3}", 0, "AAA", 7);
        takes(x, "A{1,3}$", 0, "AAA", 8);
        takes(x, "A{1,2}$", 0, "-5", 7);
        takes(x, "A{1,2}?$", 0, "-5", 7);
        due("the most", Checks.pattern(x, "A{1,2}?") > 0 ? x.spans(0, 1) : 0, 2);
        RowPatterns all = Checks.table(32, "A{0,32}");
        due("32 of 32", all.first(0), 32);
        Checks.pattern(all, "A{0,31}");
        due("31 of 32", all.first(0), 31);
        Checks.pattern(all, "A{33}");
        due("33 of 32", all.first(0), -5);
        Checks.pattern(all, "A{0,99}");
        due("99 of 32", all.first(0), 32);
    }

    private static void withoutAMost() {
        Checks.says("A REPETITION (least l, most m, or without a most;");
        // What tells that there is no most is no most itself: more than a hundred times are done.
        RowPatterns x = new RowPatterns();
        takes(x, "(^{50}){2,}", 0, "", 1 + 3 * 102);
        takes(x, "^{99,}", 0, "", 1 + 2 * 100);
        x.row(1, 1);
        // The first time takes the ROW, 98 take none, and one more fails.
        takes(x, "(A?){99,}", 0, "A", 1 + 4 + 3 * 98 + 3);
    }

    private static void moreAndLess() {
        Checks.says("otherwise, one that would have more: once more, then no more; one that would have less: no more, then once more.");
        RowPatterns x = Checks.rows(1, 2, 3);
        takes(x, "A*", 0, "AAA", 8);
        takes(x, "A*?", 0, "", 1);
        takes(x, "A*?$", 0, "AAA", 11);
        takes(x, "A*$", 0, "AAA", 9);
        takes(x, "A?", 0, "A", 3);
        takes(x, "A??", 0, "", 1);
        takes(x, "A??B", 0, "B", 2);
        takes(x, "A*B", 0, "AAB", 10);
        takes(x, "A*?B", 0, "B", 2);
        takes(x, "A+?B", 0, "AB", 4);
        takes(x, "A{1,2}?B", 0, "AB", 4);
        takes(x, "A{1,2}B", 0, "AAB", 6);
    }

    private static void chosenLast() {
        Checks.says("Where something fails, what was chosen last and has another choice left (a \"then\" above) gets that (no TRY); where none has, there is no WAY (more).");
        RowPatterns x = Checks.rows(1, 2, 3, 4);
        Checks.define(x, "C=x=3");
        // (A|B) twice: at first AA, then C fails at ROW 3 only with the choice of the last one taken back.
        takes(x, "(A|B)(A|B)C", 0, "AAC", 5);
        Checks.define(x, "C=cB=1&cA=1&lBx=2");
        takes(x, "(A|B)(A|B)C", 0, "ABC", 7);
        Checks.define(x, "C=cB=1&cA=1&lBx=1");
        takes(x, "(A|B)(A|B)C", 0, "BAC", 11);
        Checks.define(x, "C=cB=2");
        takes(x, "(A|B)(A|B)C", 0, "BBC", 13);
        Checks.define(x, "C=cB=3");
        takes(x, "(A|B)(A|B)C", 0, "-5", 13);
        due("ways", x.ways(0), 0);
        // The choices within what is done are left, too.
        Checks.define(x, "C=");
        takes(x, "(AB|A)(C|$)B", 0, "ABCB", 6);
        takes(x, "(AB|A)CD$", 1, "ACD", 9);
        // The one that was chosen first is still left behind 70 others.
        Checks.define(x, "B=x=99");
        takes(x, "A??(B??){70}C$", 2, "AC", 1 + 141 + 2 + 70 + 2 + 141 + 2);
        takes(x, "(A|C)(B??){70}C$", 2, "AC", 2 + 141 + 2);
        takes(x, "(A|C)(B??){70}A$^", 2, "-5", 2 + 141 + 3 + 70 + 1 + 141 + 3 + 70);
        Checks.define(x, "A=x=1;B=");
        due("alternatives behind alternatives", Checks.pattern(x, "(B|B|B|B|B|B)") > 0 ? x.ways(3) : 0, 6);
        due("four times", Checks.pattern(x, "(B|B|B|B|B|B){4}") > 0 ? x.ways(0) : 0, 1296);
    }

    private static void preferredIsTheFirst() {
        Checks.says("What the whole PATTERN ends with is a WAY; the PREFERRED one is the first.");
        RowPatterns x = Checks.rows(1, 2, 3);
        takes(x, "A|BC|DEF", 0, "A", 2);
        takes(x, "DEF|BC|A", 0, "DEF", 4);
        due("there are three", x.ways(0), 3);
        due("the fewest", x.spans(0, 0), 1);
        due("the most", x.spans(0, 1), 3);
        takes(x, "A??B?", 0, "B", 4);
    }

    private static void tooMuch() {
        Checks.says("If a TRY would be more than MAY allows in one search, the search is TOO MUCH (-7).");
        RowPatterns x = Checks.rows(1, 2, 3);
        Checks.pattern(x, "A*");
        x.may(8);
        due("first", x.first(0), 3);
        due("tries", x.tries(0), 8);
        due("way", x.way(0, 2), 0);
        due("ways", x.ways(0), 4);
        due("spans", x.spans(0, 1), 3);
        due("fits", x.fits(0, 0), 1);
        due("run", x.run(), 2);
        x.may(7);
        due("first", x.first(0), -7);
        due("tries", x.tries(0), -7);
        due("way", x.way(0, 2), -7);
        due("ways", x.ways(0), -7);
        due("spans, fewest", x.spans(0, 0), -7);
        due("spans, most", x.spans(0, 1), -7);
        due("fits", x.fits(0, 3), -7);
        due("run", x.run(), -7);
        due("from a START with fewer TRIES", x.first(1), 2);
        Checks.pattern(x, "A|A|B");
        x.may(2);
        due("the first is found in time", x.first(0), 1);
        due("the others are not tried", x.ways(0), -7);
        x.may(4);
        due("all are tried", x.ways(0), 3);
        due("no such WAY, all tried", x.fits(0, 2), 0);
        x.may(3);
        due("no such WAY so far", x.fits(0, 2), -7);
    }

    private static void tooMuchOfOne() {
        Checks.says("MAY: 1 .. 5000;");
        RowPatterns x = Checks.rows(1, 2);
        x.may(1);
        Checks.pattern(x, "A");
        due("one TRY", x.first(0), 1);
        due("one TRY that fails", x.first(2), -5);
        Checks.pattern(x, "AB");
        due("two TRIES", x.first(0), -7);
        Checks.pattern(x, "A*?");
        due("one TRY", x.first(0), 0);
        due("all of them", x.ways(0), -7);
        due("fits with one TRY", x.fits(0, 0), 1);
        due("fits with more", x.fits(0, 1), -7);
        x.may(3);
        due("fits with three", x.fits(0, 1), 1);
        x.may(2);
        due("fits with two", x.fits(0, 1), -7);
    }

    private static void tooMuchOfFiveThousand() {
        Checks.says("5000 at first.");
        // (^{99}){24} takes 1 + 24 * 200 TRIES, ^{98} 197, each further ^ one.
        RowPatterns x = new RowPatterns();
        Checks.pattern(x, "(^{99}){24}^{98}^^");
        due("5000 TRIES", x.tries(0), 5000);
        due("first", x.first(0), 0);
        due("ways", x.ways(0), 1);
        due("run", x.run(), 1);
        x.may(4999);
        due("with one fewer", x.tries(0), -7);
        x.may(5000);
        Checks.pattern(x, "(^{99}){24}^{98}^^^");
        due("5001 TRIES", x.tries(0), -7);
        due("first", x.first(0), -7);
        due("ways", x.ways(0), -7);
        due("spans", x.spans(0, 0), -7);
        due("fits", x.fits(0, 0), -7);
        due("run", x.run(), -7);
        // However many choices and however deep: it ends.
        RowPatterns all = Checks.table(32, "(A|B)*C");
        Checks.define(all, "C=x>99");
        due("too many WAYS", all.first(0), -7);
        Checks.pattern(all, "((((((A?){99}){99})?){99}){99}){99}");
        due("too deep", all.first(0), -7);
        Checks.pattern(all, "%(A*,B*,C*,D*)$^");
        due("too many orders", all.ways(0), -7);
    }

    private static void inOneSearch() {
        Checks.says("in one search, the search is TOO MUCH (-7).");
        // Each START's search of run() has MAY for itself.
        RowPatterns x = Checks.table(32, "A");
        x.may(1);
        due("33 searches of one TRY", x.run(), 32);
        Checks.pattern(x, "A{2}");
        x.may(5);
        due("17 searches of up to five", x.run(), 16);
        x.may(4);
        due("one too few", x.run(), -7);
        // The one that is too much may be the last.
        Checks.pattern(x, "A|B|C|D|$");
        x.may(5);
        due("only the last START has six", x.run(), -7);
        x.may(6);
        due("it may", x.run(), 33);
    }

    private static void firstAnswers() {
        Checks.says("How many ROWS the PREFERRED WAY from a START has; -5: there is none; MUCH. NONE: start; STATE: no PATTERN.");
        RowPatterns x = Checks.table(32, "A*");
        due("the most", x.first(0), 32);
        due("the fewest", x.first(32), 0);
        Checks.pattern(x, "A");
        due("there is one", x.first(31), 1);
        due("there is none", x.first(32), -5);
        for (int none : ENDS) {
            due("start " + none, x.first(none), -1);
        }
        RowPatterns without = Checks.rows(1);
        due("no PATTERN", without.first(0), -3);
        due("no PATTERN", without.first(1), -3);
        due("NONE is named ahead of STATE", without.first(2), -1);
        due("NONE is named ahead of STATE", without.first(-1), -1);
    }

    private static void triesAnswers() {
        Checks.says("How many TRIES that search took till it ended; MUCH. NONE; STATE.");
        RowPatterns x = Checks.table(2, "A|B");
        due("with a WAY", x.tries(0), 2);
        due("without one", x.tries(2), 3);
        for (int none : ENDS) {
            due("start " + none, x.tries(none), -1);
        }
        x.may(1);
        due("MUCH", x.tries(0), -7);
        RowPatterns without = Checks.rows(1);
        due("no PATTERN", without.tries(1), -3);
        due("NONE is named ahead of STATE", without.tries(2), -1);
        due("NONE is named ahead of STATE", without.tries(-1), -1);
    }

    private static void wayAnswers() {
        Checks.says("The LETTER of the i-th ROW of the PREFERRED WAY from a START; -5: there is none, or no such ROW; MUCH. NONE: start; STATE.");
        RowPatterns x = Checks.table(32, "A?B*Z");
        due("the first ROW's", x.way(0, 0), 0);
        due("the second's", x.way(0, 1), 1);
        due("the last's", x.way(0, 31), 25);
        due("behind the last", x.way(0, 32), -5);
        due("below the first", x.way(0, -1), -5);
        due("of another START", x.way(30, 1), 25);
        due("behind its last", x.way(30, 2), -5);
        due("ahead of START there is none", x.way(30, -1), -5);
        for (int none : ENDS) {
            due("ROW " + none, x.way(0, none), -5);
            due("ROW " + none, x.way(31, none), -5);
            due("start " + none, x.way(none, 0), -1);
            due("both " + none, x.way(none, none), -1);
        }
        due("no WAY", x.way(32, 0), -5);
        Checks.pattern(x, "AB(C|D)$");
        due("no WAY, though there is some way to go", x.first(0), -5);
        due("its first ROW", x.way(0, 0), -5);
        due("its second ROW", x.way(0, 1), -5);
        Checks.pattern(x, "A??");
        due("a WAY without a ROW", x.way(0, 0), -5);
        RowPatterns without = Checks.rows(1);
        due("no PATTERN", without.way(1, 0), -3);
        due("NONE is named ahead of STATE", without.way(2, 0), -1);
        due("NONE is named ahead of STATE", without.way(-1, 0), -1);
    }

    private static void waysAnswers() {
        Checks.says("How many WAYS there are from a START (all tried, also such as are alike); MUCH. NONE; STATE.");
        RowPatterns x = Checks.table(3, "A|A|A");
        due("alike ones", x.ways(0), 3);
        due("none", x.ways(3), 0);
        Checks.pattern(x, "%(A,A)");
        due("alike ones", x.ways(0), 2);
        Checks.pattern(x, "A?A?");
        due("alike ones", x.ways(0), 4);
        Checks.pattern(x, "A??A*?");
        due("alike ones", x.ways(0), 7);
        Checks.pattern(x, "$|$");
        due("without a ROW", x.ways(3), 2);
        for (int none : ENDS) {
            due("start " + none, x.ways(none), -1);
        }
        RowPatterns without = Checks.rows(1);
        due("no PATTERN", without.ways(1), -3);
        due("NONE is named ahead of STATE", without.ways(2), -1);
        due("NONE is named ahead of STATE", without.ways(-1), -1);
    }

    private static void spansAnswers() {
        Checks.says("What 0 the fewest, 1 the most ROWS that a WAY from a START has; -5: there is none; MUCH. NONE: start, what; STATE.");
        RowPatterns x = Checks.table(32, "A*");
        due("the fewest", x.spans(0, 0), 0);
        due("the most", x.spans(0, 1), 32);
        due("the most from another START", x.spans(31, 1), 1);
        Checks.pattern(x, "AB|A|ABC");
        due("the fewest, neither the first nor the last", x.spans(0, 0), 1);
        due("the most", x.spans(0, 1), 3);
        Checks.pattern(x, "ABC|A|AB");
        due("the fewest", x.spans(0, 0), 1);
        due("the most, the first", x.spans(0, 1), 3);
        due("none, the fewest", x.spans(32, 0), -5);
        due("none, the most", x.spans(32, 1), -5);
        Checks.pattern(x, "AAAA");
        due("only one WAY", x.spans(0, 0), 4);
        due("what -1", x.spans(0, -1), -1);
        due("what 2", x.spans(0, 2), -1);
        for (int none : ENDS) {
            due("start " + none, x.spans(none, 0), -1);
            due("what " + none, x.spans(0, none), -1);
            due("both " + none, x.spans(none, none), -1);
        }
        RowPatterns without = Checks.rows(1);
        due("no PATTERN", without.spans(1, 1), -3);
        due("NONE is named ahead of STATE: start", without.spans(2, 0), -1);
        due("NONE is named ahead of STATE: start", without.spans(-1, 0), -1);
        due("NONE is named ahead of STATE: what", without.spans(0, 2), -1);
        due("NONE is named ahead of STATE: what", without.spans(0, -1), -1);
        x.may(1);
        due("NONE, though it would be MUCH", x.spans(0, 2), -1);
    }

    private static void fitsAnswers() {
        Checks.says("Whether a WAY from a START has just the ROWS ahead of an end (which may be START): 1, 0; MUCH. NONE: start, end (0 .. how many ROWS), or the end is below START; STATE.");
        RowPatterns x = Checks.table(32, "A*");
        due("the end is START", x.fits(0, 0), 1);
        due("the end is START", x.fits(32, 32), 1);
        due("the last end", x.fits(0, 32), 1);
        due("an end between", x.fits(5, 17), 1);
        due("an end below START", x.fits(5, 4), -1);
        due("an end below START", x.fits(32, 31), -1);
        due("an end below START", x.fits(1, 0), -1);
        due("end -1", x.fits(0, -1), -1);
        due("end -1", x.fits(-1, -1), -1);
        due("end 33", x.fits(0, 33), -1);
        due("end 33", x.fits(33, 33), -1);
        due("start -1", x.fits(-1, 0), -1);
        due("start 33", x.fits(33, 32), -1);
        for (int none : ENDS) {
            due("start " + none, x.fits(none, 32), -1);
            due("end " + none, x.fits(0, none), -1);
            due("both " + none, x.fits(none, none), -1);
        }
        Checks.pattern(x, "AA");
        due("none of them", x.fits(0, 0), 0);
        due("none of them", x.fits(32, 32), 0);
        due("one too few", x.fits(0, 1), 0);
        due("just so many", x.fits(0, 2), 1);
        due("one too many", x.fits(0, 3), 0);
        due("just so many from there", x.fits(30, 32), 1);
        due("no WAY", x.fits(31, 32), 0);
        RowPatterns without = Checks.rows(1);
        due("no PATTERN", without.fits(0, 1), -3);
        due("no PATTERN", without.fits(1, 1), -3);
        due("NONE is named ahead of STATE", without.fits(1, 0), -1);
        due("NONE is named ahead of STATE", without.fits(0, 2), -1);
        due("NONE is named ahead of STATE", without.fits(-1, 0), -1);
    }

    private static void fitsEndsTheSearch() {
        Checks.says("(The search ends with the first such WAY.)");
        RowPatterns x = Checks.rows(1, 2, 3);
        Checks.pattern(x, "A*?");
        x.may(7);
        due("just in time", x.fits(0, 3), 1);
        x.may(6);
        due("not in time", x.fits(0, 3), -7);
        x.may(1);
        due("the first WAY at once", x.fits(0, 0), 1);
        Checks.pattern(x, "A|AB|A|AB");
        x.may(4);
        due("the first of two alike", x.fits(0, 2), 1);
        x.may(3);
        due("not in time", x.fits(0, 2), -7);
    }

    private static void stateBehindNone() {
        Checks.says("STATE (-3) as told;");
        RowPatterns x = new RowPatterns();
        due("START 0 of no ROWS: first", x.first(0), -3);
        due("tries", x.tries(0), -3);
        due("way", x.way(0, 0), -3);
        due("way, no such ROW", x.way(0, -1), -3);
        due("ways", x.ways(0), -3);
        due("spans", x.spans(0, 1), -3);
        due("fits", x.fits(0, 0), -3);
        due("run", x.run(), -3);
        due("spell", x.spell(), -3);
        due("drop", x.drop(), -3);
        due("undo", x.undo(), -3);
    }
}
