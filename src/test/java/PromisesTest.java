/** Each promise by itself: ordinary inputs, the edges that the document names, and wrong inputs. */
public final class PromisesTest {
    private static final int BIG = Integer.MAX_VALUE, LOW = Integer.MIN_VALUE;
    private static final long NO = Long.MIN_VALUE;

    public static void main(String[] args) {
        newObject();
        rowsAndCells();
        tape();
        patternFaults();
        patternParts();
        spelling();
        defineFaults();
        conditions();
        missing();
        settings();
        searches();
        triesInOrder();
        tooMuch();
        waysSpansFits();
        matchesByModes();
        measures();
        matchesGo();
        told();
        lists();
        layAndJudge();
        images();
        Checks.end();
    }

    private static void due(String what, long got, long want) {
        Checks.due(what, got, want);
    }

    private static void newObject() {
        RowPatterns x = new RowPatterns();
        int[] begin = {0, 0, 0, 0, 0, 1, 5000, 0, 0, 0};
        for (int i = 0; i < begin.length; i++) {
            due("new told " + i, x.told(i), begin[i]);
        }
        due("new cell", x.cell(0, 0), -1);
        due("new part", x.part(0, 0), -1);
        due("new spell", x.spell(), -3);
        due("new paper", x.paper(0), -1);
        due("new first", x.first(0), -3);
        due("new first at no start", x.first(1), -1);
        due("new undo", x.undo(), -3);
        due("new get", x.get(0, 0), NO);
        due("new put", x.put(0, 0, 1), -11);
        due("new match", x.match(0, 0), -1);
    }

    private static void rowsAndCells() {
        RowPatterns x = new RowPatterns();
        due("row", x.row(-999, 999), 0);
        due("row with none", x.row(1000, 1000), 1);
        for (int bad : new int[] {-1000, 1001, BIG, LOW}) {
            due("row x " + bad, x.row(bad, 0), -2);
            due("row y " + bad, x.row(0, bad), -2);
            due("set x " + bad, x.set(0, bad, 0), -2);
            due("set y " + bad, x.set(0, 0, bad), -2);
            due("set of none comes first " + bad, x.set(7, bad, 0), -1);
        }
        due("cell", x.cell(0, 0), -999);
        due("cell", x.cell(0, 1), 999);
        due("cell lacking", x.cell(1, 1), 1000);
        due("cell row", x.cell(2, 0), -1);
        due("cell row", x.cell(-1, 0), -1);
        due("cell column", x.cell(0, 2), -1);
        due("cell column", x.cell(0, -1), -1);
        due("set", x.set(1, 5, 1000), 2);
        due("set x", x.cell(1, 0), 5);
        due("set y", x.cell(1, 1), 1000);
        due("set none", x.set(2, 0, 0), -1);
        due("set none", x.set(-1, 0, 0), -1);
        for (int i = 2; i < 32; i++) {
            due("row " + i, x.row(i, 1000), i);
        }
        due("row full", x.row(1, 1), -4);
        due("row bad before full", x.row(1, 1001), -2);
        due("rows", x.told(0), 32);
        due("cell 31", x.cell(31, 0), 31);
        due("drop", x.drop(), 31);
        due("cell gone", x.cell(31, 0), -1);
        due("row again", x.row(8, 9), 31);
        for (int i = 31; i >= 0; i--) {
            due("drop to " + i, x.drop(), i);
        }
        due("drop none", x.drop(), -3);
    }

    private static void tape() {
        RowPatterns x = new RowPatterns();
        due("feed 0", x.feed(0), -2);
        due("feed 128", x.feed(128), -2);
        due("feed -1", x.feed(-1), -2);
        for (int i = 1; i <= 120; i++) {
            due("feed", x.feed(i % 127 + 1), i);
        }
        due("feed full", x.feed(65), -4);
        due("feed bad before full", x.feed(0), -2);
        due("told tape", x.told(9), 120);
        due("clear", x.clear(), 120);
        due("clear", x.clear(), 0);
        due("feed 127", x.feed(127), 1);
        due("pattern", x.pattern(), -100);
        due("tape read", x.told(9), 0);
        Checks.feed(x, "AB");
        due("define", x.define(), -101);
        due("tape read", x.told(9), 0);
        Checks.feed(x, "A".repeat(120));
        due("120 letters", x.pattern(), 121);
        due("120 letters spelled", x.spell(), 120);
    }

    private static void fault(String text, int at) {
        RowPatterns x = new RowPatterns();
        Checks.pattern(x, "ZZ");
        due("pattern " + text, Checks.pattern(x, text), -100 - at);
        due("pattern stays behind " + text, x.told(1), 3);
        due("tape empty behind " + text, x.clear(), 0);
    }

    private static void patternFaults() {
        fault("", 0);
        fault("a", 0);
        fault("|A", 0);
        fault("*", 0);
        fault("A|", 2);
        fault("A||B", 2);
        fault("(", 1);
        fault("()", 1);
        fault("(A", 2);
        fault("A)", 1);
        fault("A,B", 1);
        fault("(A,B)", 2);
        fault("A**", 2);
        fault("A*+", 2);
        fault("A???", 3);
        fault("A{", 2);
        fault("A{}", 2);
        fault("A{,3}", 2);
        fault("A{0}", 3);
        fault("A{00}", 4);
        fault("A{0", 3);
        fault("A{0?", 3);
        fault("A{000}", 4);
        fault("A{123}", 4);
        fault("A{12", 4);
        fault("A{1x}", 3);
        fault("A{1,", 4);
        fault("A{1,x}", 4);
        fault("A{5,3}", 4);
        fault("A{5,3", 4);
        fault("A{5,3x", 4);
        fault("A{0,0}", 4);
        fault("A{0,00}", 4);
        fault("A{0,0", 4);
        fault("A{1,234}", 6);
        fault("A{20,3}", 5);
        fault("A{1,2", 5);
        fault("A{1,2?", 5);
        fault("A{1,}{2}", 5);
        fault("%", 1);
        fault("%A", 1);
        fault("%(", 2);
        fault("%(A)", 3);
        fault("%(A", 3);
        fault("%(A,", 4);
        fault("%(A,)", 4);
        fault("%(A,B,C,D,E)", 9);
        fault("%(A,B", 5);
        fault("((((((A))))))", 5);
        fault("(((((%(A,B))))))", 5);
        fault("%(A,%(A,%(A,%(A,%(A,(B))))))", 20);
        fault("A B", 1);
        fault("A1", 1);
    }

    private static void parts(String text, int count) {
        RowPatterns x = new RowPatterns();
        due("pattern " + text, Checks.pattern(x, text), count);
        due("told parts of " + text, x.told(1), count);
    }

    private static void partDue(RowPatterns x, int part, int... facts) {
        for (int what = 0; what < facts.length; what++) {
            due("part " + part + " what " + what, x.part(part, what), facts[what]);
        }
        due("part, no such what", x.part(part, 7), -1);
        due("part, no such what", x.part(part, -1), -1);
    }

    private static void patternParts() {
        parts("A", 1);
        parts("((((((A)))))".substring(1), 1);
        parts("(((((A)))))(((((B)))))", 3);
        parts("A{0,1}", 2);
        parts("A{1}", 2);
        parts("A{09,9}", 2);
        parts("A{5,30}", 2);
        parts("A{99,99}??".substring(0, 9), 2);
        parts("^*$+?", 5);
        parts("%(A,B,C,D)", 5);
        parts("%(A|B,CD)", 7);
        parts("AA|AA|AA", 10);
        RowPatterns x = new RowPatterns();
        // 0 A, 1 B, 2 B{2,5}?, 3 Q, 4 ^, 5 C, 6 D, 7 P(C|D), 8 %, 9 $, 10 Q, 11 P
        due("pattern", Checks.pattern(x, "A(B){02,5}?|%(^,(C|D))$"), 12);
        partDue(x, 0, 0, 0, 0, -5, -5, -5, 3);
        partDue(x, 1, 0, 1, 0, -5, -5, -5, 2);
        partDue(x, 2, 5, -5, 1, 2, 5, 0, 3);
        partDue(x, 3, 3, -5, 2, -5, -5, -5, 11);
        partDue(x, 4, 1, -5, 0, -5, -5, -5, 8);
        partDue(x, 7, 4, -5, 2, -5, -5, -5, 8);
        partDue(x, 8, 6, -5, 2, -5, -5, -5, 10);
        partDue(x, 9, 2, -5, 0, -5, -5, -5, 10);
        partDue(x, 10, 3, -5, 2, -5, -5, -5, 11);
        partDue(x, 11, 4, -5, 2, -5, -5, -5, -5);
        due("no such part", x.part(12, 0), -1);
        due("no such part", x.part(-1, 0), -1);
        due("no such part", x.part(BIG, 0), -1);
        due("no such part", x.part(LOW, 0), -1);
        Checks.pattern(x, "Z*");
        partDue(x, 1, 5, -5, 1, 0, 100, 1, -5);
        Checks.pattern(x, "Z+?");
        partDue(x, 1, 5, -5, 1, 1, 100, 0, -5);
        Checks.pattern(x, "Z?");
        partDue(x, 1, 5, -5, 1, 0, 1, 1, -5);
        Checks.pattern(x, "Z{7}");
        partDue(x, 1, 5, -5, 1, 7, 7, 1, -5);
        Checks.pattern(x, "Z{7,}");
        partDue(x, 1, 5, -5, 1, 7, 100, 1, -5);
    }

    private static void spelledAs(String text, String want) {
        RowPatterns x = new RowPatterns();
        due("pattern " + text, Checks.pattern(x, text) > 0 ? 1 : 0, 1);
        Checks.due("spelled " + text, Checks.spelled(x), want);
    }

    private static void spelling() {
        spelledAs("(((A)))", "A");
        spelledAs("(A)(B)", "AB");
        spelledAs("(AB)C", "(AB)C");
        spelledAs("A(BC)", "A(BC)");
        spelledAs("(AB)|(C)", "AB|C");
        spelledAs("A|(B|C)", "A|(B|C)");
        spelledAs("(A|B)", "A|B");
        spelledAs("(A|B)C", "(A|B)C");
        spelledAs("(A*)", "A*");
        spelledAs("(A*)?", "(A*)?");
        spelledAs("(A{2}){3}", "(A{2}){3}");
        spelledAs("(A*)B", "A*B");
        spelledAs("(AB)*", "(AB)*");
        spelledAs("(%(A,B))*", "%(A,B)*");
        spelledAs("%((A|B),(CD),(E*),(F))", "%(A|B,CD,E*,F)");
        spelledAs("(^)($)", "^$");
        spelledAs("A{0,}B{1,}C{0,1}D{3,3}E{03,04}F{10,}G{01,01}", "A*B+C?D{3}E{3,4}F{10,}G{1}");
        spelledAs("A{0,}?B{1,}?C{0,1}?D{3,3}?E{0,2}?", "A*?B+?C??D{3}?E{0,2}?");
        spelledAs("A{0,2}B{90,99}", "A{0,2}B{90,99}");
        RowPatterns x = new RowPatterns();
        Checks.pattern(x, "AB");
        due("spell", x.spell(), 2);
        Checks.pattern(x, "C");
        due("paper stays", x.paper(1), 'B');
        due("spell", x.spell(), 1);
        due("paper", x.paper(0), 'C');
        due("paper none", x.paper(1), -1);
        due("paper none", x.paper(-1), -1);
        due("paper none", x.paper(BIG), -1);
        due("paper none", x.paper(LOW), -1);
    }

    private static void conditionFault(String text, int at) {
        RowPatterns x = Checks.rows(5);
        Checks.define(x, "A=x=1");
        due("define " + text, Checks.define(x, text), -100 - at);
        due("conditions stay behind " + text, x.told(7), 1);
        due("condition stays behind " + text, x.holds(0, 0), 0);
        due("tape empty behind " + text, x.clear(), 0);
    }

    private static void defineFaults() {
        conditionFault("", 0);
        conditionFault("a=x>1", 0);
        conditionFault("A", 1);
        conditionFault("A>x", 1);
        conditionFault("A=;", 3);
        conditionFault("A=;;", 3);
        conditionFault("A=x", 3);
        conditionFault("A=x>", 4);
        conditionFault("A=x>1;", 6);
        conditionFault("A=x>1;B", 7);
        conditionFault("A=x>1B", 5);
        conditionFault("A=x>1234", 7);
        conditionFault("A=x>--1", 5);
        conditionFault("A=x>-x", 5);
        conditionFault("A=x>-", 5);
        conditionFault("A=x>=1", 4);
        conditionFault("A=z>1", 2);
        conditionFault("A=p>1", 3);
        conditionFault("A=n", 3);
        conditionFault("A=pA>1", 3);
        conditionFault("A=fx>1", 3);
        conditionFault("A=fA>1", 4);
        conditionFault("A=sAc>1", 4);
        conditionFault("A=c>1", 3);
        conditionFault("A=cAx>1", 4);
        conditionFault("A=x>1|", 6);
        conditionFault("A=x>1&", 6);
        conditionFault("A=x>1&&x>2", 6);
        conditionFault("A=(x>1", 6);
        conditionFault("A=(x>1;", 6);
        conditionFault("A=x>1)", 5);
        conditionFault("A=()", 3);
        conditionFault("A=!", 3);
        conditionFault("A=!!!!!x>1", 6);
        conditionFault("A=((((( x>1)))))", 6);
        conditionFault("A=!(!(!x>1))", 6);
        conditionFault("A=(!(x>1)&(!(x>1))&((!!(x>1))))", 22);
        conditionFault("B=x>1;A=x?1", 9);
        RowPatterns x = new RowPatterns();
        due("four within", Checks.define(x, "A=!!!!x>1"), 1);
        due("four within", Checks.define(x, "A=((((x>1))))&!(!(x>1))|!!!!x=1"), 1);
        due("of two the later", Checks.define(x, "B=x>1;B=;C=;C=1=1"), 4);
        due("bits", x.told(7), 5);
        due("none again", Checks.define(x, "A=;C="), 2);
        due("bits", x.told(7), 0);
        due("forty", Checks.define(x, "Z=;".repeat(39) + "Z="), 40);
        due("bits", Checks.define(x, "A=1<2;Z=1<2") + x.told(7), 2 + 1 + (1 << 25));
    }

    private static void holdsDue(String condition, int row, int want) {
        RowPatterns x = new RowPatterns();
        x.row(5, 1000);
        x.row(7, 2);
        x.row(-3, 3);
        x.row(1000, -999);
        due("define " + condition, Checks.define(x, "A=" + condition), 1);
        due(condition + " at " + row, x.holds(0, row), want);
    }

    private static void conditions() {
        holdsDue("x>4", 0, 1);
        holdsDue("x>5", 0, 0);
        holdsDue("x<6", 0, 1);
        holdsDue("x<5", 0, 0);
        holdsDue("x=5", 0, 1);
        holdsDue("x=005", 0, 1);
        holdsDue("x=-03", 2, 1);
        holdsDue("-999=y", 3, 1);
        holdsDue("0=-0", 3, 1);
        holdsDue("x>px", 1, 1);
        holdsDue("x<nx", 1, 0);
        holdsDue("ny=3", 1, 1);
        holdsDue("py=2", 2, 1);
        holdsDue("x=5|x=7&y=3", 0, 1);
        holdsDue("x=5&y=3|x=5", 0, 1);
        holdsDue("(x=5|x=7)&y=3", 0, 0);
        holdsDue("x=7&!y=3", 1, 1);
        holdsDue("!x=7&y=2", 1, 0);
        holdsDue("!(x=7&y=3)", 1, 1);
        holdsDue("!!x=7", 1, 1);
        holdsDue("x=1|x=2|x=7", 1, 1);
        holdsDue("x=7&y=2&x>1&y>1&x>2", 1, 1);
        holdsDue("x=7&y=2&x>1&y>2&x>2", 1, 0);
        holdsDue("cA=1", 1, 1);
        holdsDue("cB=0", 1, 1);
        holdsDue("fAx=7&lAx=7&sAx=7", 1, 1);
        holdsDue("fBx=7|lBx=7|fBx<7|lBx>7", 1, 0);
        holdsDue("sBx=0", 1, 1);
        RowPatterns x = Checks.rows(1, 2);
        due("without a condition", x.holds(25, 1), 1);
        due("holds letter", x.holds(26, 0), -1);
        due("holds letter", x.holds(-1, 0), -1);
        due("holds row", x.holds(0, 2), -1);
        due("holds row", x.holds(0, -1), -1);
        // Sums beyond 1000 are no MISSING ones.
        x = Checks.rows(500, 500, 999);
        Checks.pattern(x, "AAB");
        due("sum of 1000", Checks.define(x, "B=sAx=fAx|sAx>999&sBx=999"), 1);
        due("sum of 1000", x.first(0), 3);
        // With the letters so far, from START on; itself, too.
        x = Checks.rows(4, 9, 2, 7, 7);
        Checks.pattern(x, "(A|B)*");
        Checks.define(x, "A=cA<3&cB<2;B=x>fAx&lBx=x&lAx<9");
        Checks.due("so far", Checks.preferred(x, 0), "AA");
        Checks.define(x, "A=cA<2;B=sBx<99&fBx=9");
        Checks.due("so far", Checks.preferred(x, 0), "ABBBB");
        Checks.due("from START on", Checks.preferred(x, 2), "A");
    }

    private static void missing() {
        holdsDue("y=2", 0, 0);
        holdsDue("!y=2", 0, 1);
        holdsDue("y=y", 0, 0);
        holdsDue("y<999", 0, 0);
        holdsDue("y>-999", 0, 0);
        holdsDue("px<999", 0, 0);
        holdsDue("!px<999", 0, 1);
        holdsDue("nx<999", 3, 0);
        holdsDue("nx<999", 2, 0);
        holdsDue("x=x", 3, 0);
        holdsDue("fAx=lAx", 3, 0);
        holdsDue("sAx=0", 3, 1);
        holdsDue("cA=1", 3, 1);
        RowPatterns x = new RowPatterns();
        x.row(1000, 0);
        x.row(5, 0);
        x.row(6, 0);
        Checks.pattern(x, "A*");
        // The first A lacks its X, which is not passed over.
        Checks.define(x, "A=fAx=5|cA=1");
        Checks.due("first of the letter lacks it", Checks.preferred(x, 0), "A");
        Checks.define(x, "A=sAx=0|sAx=5");
        Checks.due("sums pass over", Checks.preferred(x, 0), "AA");
        Checks.define(x, "A=!px=5");
        Checks.due("ahead of START, in the table", Checks.preferred(x, 2), "");
        due("behind the last row nothing", x.drop(), 2);
        Checks.define(x, "A=nx>0");
        due("n of the last row", x.holds(0, 1), 0);
    }

    private static void settings() {
        RowPatterns x = new RowPatterns();
        due("mode", x.mode(3, 25), 0);
        due("mode", x.mode(1, 7), 253);
        due("mode", x.mode(4, 0), -1);
        due("mode", x.mode(-1, 0), -1);
        due("mode", x.mode(0, 26), -1);
        due("mode", x.mode(0, -1), -1);
        due("mode told", x.told(3), 1);
        due("letter told", x.told(4), 7);
        due("empties", x.empties(0), 1);
        due("empties", x.empties(0), 0);
        due("empties", x.empties(2), -1);
        due("empties", x.empties(-1), -1);
        due("empties", x.told(5), 0);
        due("empties", x.empties(1), 0);
        due("may", x.may(1), 5000);
        due("may", x.may(0), -2);
        due("may", x.may(-5), -2);
        due("may", x.may(5001), -2);
        due("may", x.told(6), 1);
        due("may", x.may(5000), 1);
    }

    private static void preferredDue(RowPatterns x, String pattern, int start, String want, int tries) {
        due("pattern " + pattern, Checks.pattern(x, pattern) > 0 ? 1 : 0, 1);
        Checks.due(pattern, Checks.preferred(x, start), want);
        due("tries of " + pattern, x.tries(start), tries);
    }

    private static void searches() {
        RowPatterns x = Checks.rows(1, 2, 3);
        preferredDue(x, "A", 0, "A", 1);
        preferredDue(x, "A", 3, "-5", 1);
        preferredDue(x, "^A", 0, "A", 2);
        preferredDue(x, "^A", 1, "-5", 1);
        preferredDue(x, "A$", 2, "A", 2);
        preferredDue(x, "A$", 1, "-5", 2);
        preferredDue(x, "$^", 3, "-5", 2);
        preferredDue(x, "A|B", 0, "A", 2);
        preferredDue(x, "(A|B)$", 2, "A", 3);
        preferredDue(x, "A*", 1, "AA", 6);
        preferredDue(x, "A*?", 1, "", 1);
        preferredDue(x, "A*?$", 1, "AA", 8);
        preferredDue(x, "%(A,B)", 0, "AB", 5);
        preferredDue(x, "%(A,BC)", 0, "ABC", 6);
        for (int wrong : new int[] {-1, 4, BIG, LOW}) {
            due("first", x.first(wrong), -1);
            due("tries", x.tries(wrong), -1);
            due("way", x.way(wrong, 0), -1);
            due("ways", x.ways(wrong), -1);
            due("spans", x.spans(wrong, 0), -1);
            due("fits", x.fits(wrong, 3), -1);
        }
        Checks.pattern(x, "AB");
        due("way", x.way(0, 0), 0);
        due("way", x.way(0, 1), 1);
        due("no such row", x.way(0, 2), -5);
        due("no such row", x.way(0, -1), -5);
        due("no such row", x.way(0, BIG), -5);
        due("no such row", x.way(0, LOW), -5);
        due("no way", x.way(3, 0), -5);
        RowPatterns none = Checks.rows(1);
        due("first", none.first(0), -3);
        due("tries", none.tries(1), -3);
        due("way", none.way(0, 0), -3);
        due("ways", none.ways(0), -3);
        due("spans", none.spans(0, 0), -3);
        due("spans what", none.spans(0, 2), -1);
        due("fits", none.fits(0, 1), -3);
        due("fits start", none.fits(2, 1), -1);
        due("run", none.run(), -3);
        due("first start", none.first(2), -1);
    }

    private static void triesInOrder() {
        RowPatterns x = Checks.rows(1, 2, 3, 4);
        // What was chosen last gets another choice first.
        Checks.define(x, "C=x=4");
        preferredDue(x, "(A|B)*C", 0, "AAAC", 24);
        Checks.define(x, "A=x<3;B=x<4;C=x>2");
        preferredDue(x, "(A|B)*C", 0, "AABC", 15);
        preferredDue(x, "%(C,A,B)", 1, "ABC", 11);
        Checks.define(x, "A=;B=;C=");
        preferredDue(x, "%(A,B?,C)$", 1, "ABC", 10);
        // A time that does nothing fails once the least are done.
        preferredDue(x, "(A?){3}$", 3, "A", 12);
        preferredDue(x, "(A??)*$", 3, "A", 10);
        preferredDue(x, "(^*){2}", 0, "", 9);
        preferredDue(x, "(^|A){2,}?", 0, "", 7);
        preferredDue(x, "(A|B|C)$", 3, "A", 3);
        preferredDue(x, "(A|B|C)$", 2, "-5", 7);
        // More than a hundred times without a most.
        preferredDue(x, "(A?){99,}", 0, "AAAA", 305);
        due("ways of it", Checks.pattern(x, "(A??){99,}?") > 0 ? x.first(0) : 0, 0);
    }

    private static void tooMuch() {
        RowPatterns x = Checks.rows(1, 2, 3);
        Checks.pattern(x, "A*");
        due("tries", x.tries(0), 8);
        x.may(8);
        due("just enough", x.first(0), 3);
        due("just enough", x.ways(0), 4);
        due("run", x.run(), 2);
        x.may(7);
        due("first", x.first(0), -7);
        due("tries", x.tries(0), -7);
        due("way", x.way(0, 0), -7);
        due("ways", x.ways(0), -7);
        due("spans", x.spans(0, 0), -7);
        due("fits the most, found in time", x.fits(0, 2), -7);
        due("run", x.run(), -7);
        due("matches stay", x.told(2), 2);
        due("matches stay", x.match(0, 1), 3);
        due("another start", x.first(1), 2);
        Checks.pattern(x, "A*?");
        due("found ahead of the limit", x.fits(0, 3), 1);
        due("all tried", x.ways(0), -7);
        RowPatterns many = new RowPatterns();
        for (int i = 0; i < 32; i++) {
            many.row(i, i);
        }
        Checks.pattern(many, "(A|B)*C");
        due("much", many.ways(0), -7);
        Checks.define(many, "C=x>99");
        due("much", many.first(0), -7);
        due("much", many.run(), -7);
        Checks.pattern(many, "((A?){99}){99}");
        due("much, however deep", many.first(0), -7);
        Checks.define(many, "C=");
        Checks.pattern(many, "((((AB)C)D)*)*");
        due("deep", many.first(0), 32);
    }

    private static void waysSpansFits() {
        RowPatterns x = Checks.rows(1, 2, 3);
        Checks.pattern(x, "(A|B)*");
        due("ways", x.ways(0), 15);
        due("ways", x.ways(3), 1);
        Checks.pattern(x, "A|A|AA");
        due("alike ones too", x.ways(0), 3);
        due("fewest", x.spans(0, 0), 1);
        due("most", x.spans(0, 1), 2);
        due("none", x.ways(3), 0);
        due("none", x.spans(3, 0), -5);
        due("none", x.spans(3, 1), -5);
        due("what", x.spans(0, 2), -1);
        due("what", x.spans(0, -1), -1);
        due("fits", x.fits(0, 1), 1);
        due("fits", x.fits(0, 2), 1);
        due("fits", x.fits(0, 0), 0);
        due("fits", x.fits(0, 3), 0);
        due("fits", x.fits(1, 1), 0);
        due("end below start", x.fits(1, 0), -1);
        due("end", x.fits(0, 4), -1);
        due("end", x.fits(0, -1), -1);
        due("end", x.fits(0, BIG), -1);
        Checks.pattern(x, "AA|A?");
        due("fits an empty one", x.fits(2, 2), 1);
        due("fewest none", x.spans(0, 0), 0);
        due("most two", x.spans(0, 1), 2);
        Checks.pattern(x, "AB");
        due("of one way", x.spans(0, 0), 2);
        due("of one way", x.spans(1, 0), 2);
        due("of one way", x.spans(1, 1), 2);
        due("no row ahead of START", x.way(1, -1), -5);
    }

    private static String matches(RowPatterns x) {
        StringBuilder out = new StringBuilder();
        int n = x.run();
        for (int m = 0; m < n; m++) {
            out.append(m > 0 ? " " : "").append(x.match(m, 0)).append('+').append(x.match(m, 1));
        }
        return out.toString();
    }

    private static void matchesByModes() {
        RowPatterns x = Checks.rows(1, 2, 3, 4, 5, 6);
        Checks.pattern(x, "ABBC");
        Checks.due("past", matches(x), "0+4");
        x.mode(1, 0);
        Checks.due("next", matches(x), "0+4 1+4 2+4");
        x.mode(2, 1);
        Checks.due("first B", matches(x), "0+4 1+4 2+4");
        x.mode(3, 1);
        Checks.due("last B", matches(x), "0+4 2+4");
        x.mode(2, 2);
        Checks.due("first C", matches(x), "0+4");
        x.mode(2, 0);
        Checks.due("first A is START", matches(x), "0+4 1+4 2+4");
        x.mode(3, 25);
        Checks.due("no such letter", matches(x), "0+4 1+4 2+4");
        Checks.pattern(x, "AAB");
        x.mode(2, 0);
        Checks.due("the first A is START, the second doesn't matter", matches(x), "0+3 1+3 2+3 3+3");
        x.mode(3, 0);
        Checks.due("last A", matches(x), "0+3 1+3 2+3 3+3");
        x.mode(0, 0);
        Checks.define(x, "A=x=2|x=3");
        Checks.pattern(x, "A*");
        Checks.due("empties count", matches(x), "0+0 1+2 3+0 4+0 5+0 6+0");
        x.empties(0);
        Checks.due("empties don't", matches(x), "1+2");
        Checks.pattern(x, "A??");
        Checks.due("the preferred one is empty", matches(x), "");
        x.empties(1);
        Checks.due("the preferred one is empty", matches(x), "0+0 1+0 2+0 3+0 4+0 5+0 6+0");
        due("run without rows", new RowPatterns().run(), -3);
        RowPatterns none = new RowPatterns();
        Checks.pattern(none, "A*");
        due("run without rows", none.run(), 1);
        due("its rows", none.match(0, 1), 0);
        RowPatterns all = new RowPatterns();
        for (int i = 0; i < 32; i++) {
            all.row(i, i);
        }
        Checks.pattern(all, "A?");
        all.mode(1, 0);
        due("33 matches", all.run(), 33);
        due("the last", all.match(32, 0), 32);
        due("the last", all.match(32, 1), 0);
        due("none", all.match(33, 0), -1);
    }

    private static void measures() {
        RowPatterns x = new RowPatterns();
        x.row(99, 99);
        x.row(1000, 4);
        x.row(-7, 1000);
        x.row(2, 1000);
        x.row(1000, 1);
        x.row(-1, 8);
        Checks.pattern(x, "A+B$");
        x.mode(0, 0);
        Checks.define(x, "A=!x=99");
        due("run", x.run(), 1);
        long[] want = {4, -5, -7, 2, -7, 2, -3};
        for (int i = 0; i < want.length; i++) {
            due("x of A " + i, x.measure(0, 0, 0, i), want[i]);
        }
        want = new long[] {4, 5, 1, 4, 4, 1, 2};
        for (int i = 0; i < want.length; i++) {
            due("y of A " + i, x.measure(0, 0, 1, i), want[i]);
        }
        want = new long[] {5, -6, -7, 2, -7, -1, -2};
        for (int i = 0; i < want.length; i++) {
            due("x of all " + i, x.measure(0, 26, 0, i), want[i]);
        }
        want = new long[] {0, 0, NO, NO, NO, NO, NO};
        for (int i = 0; i < want.length; i++) {
            due("x of C " + i, x.measure(0, 2, 0, i), want[i]);
        }
        due("no match", x.measure(1, 0, 0, 0), NO);
        due("no match", x.measure(-1, 0, 0, 0), NO);
        due("no letter", x.measure(0, 27, 0, 0), NO);
        due("no letter", x.measure(0, -1, 0, 0), NO);
        due("no column", x.measure(0, 0, 2, 0), NO);
        due("no column", x.measure(0, 0, -1, 0), NO);
        due("no measure", x.measure(0, 0, 0, 7), NO);
        due("no measure", x.measure(0, 0, 0, -1), NO);
        due("start", x.match(0, 0), 1);
        due("rows", x.match(0, 1), 5);
        due("unlike letters", x.match(0, 2), 2);
        due("bits", x.match(0, 3), 3);
        due("no what", x.match(0, 4), -1);
        due("no what", x.match(0, -1), -1);
        due("no match", x.match(1, 0), -1);
        due("no match", x.match(-1, 0), -1);
        due("label", x.label(0, 0), -5);
        due("label", x.label(0, 1), 0);
        due("label", x.label(0, 5), 1);
        due("label row", x.label(0, 6), -1);
        due("label row", x.label(0, -1), -1);
        due("label match", x.label(1, 0), -1);
        due("label match", x.label(-1, 0), -1);
        Checks.pattern(x, "AB|A");
        x.mode(1, 0);
        Checks.define(x, "A=");
        due("run", x.run(), 6);
        due("covered", x.covered(0), 1);
        due("covered", x.covered(1), 2);
        due("covered", x.covered(5), 2);
        due("covered none", x.covered(6), -1);
        due("covered none", x.covered(-1), -1);
        due("rows in none", x.told(8), 0);
        Checks.define(x, "A=x=99");
        due("run", x.run(), 1);
        due("rows in none", x.told(8), 4);
        // The mean is rounded down.
        RowPatterns mean = Checks.rows(1, 2, -4, -1);
        Checks.pattern(mean, "AA");
        mean.run();
        due("mean", mean.measure(0, 0, 0, 6), 1);
        due("mean", mean.measure(1, 0, 0, 6), -3);
        due("mean", mean.measure(1, 0, 1, 6), 2);
    }

    private static RowPatterns withMatches() {
        RowPatterns x = Checks.rows(1, 2, 3);
        Checks.pattern(x, "A");
        due("run", x.run(), 3);
        return x;
    }

    private static void matchesGo() {
        RowPatterns x = withMatches();
        x.row(1, 1001);
        x.set(3, 1, 1);
        x.set(0, 1001, 1);
        x.mode(2, 2);
        x.empties(0);
        x.may(7);
        x.first(0);
        x.ways(0);
        x.spell();
        x.list(0, 3);
        Checks.pattern(x, "A(");
        Checks.define(x, "A=?");
        due("matches stay", x.told(2), 3);
        x.row(1, 1);
        due("gone behind row()", x.told(2), 0);
        x = withMatches();
        x.set(0, 1, 0);
        due("gone behind set()", x.told(2), 0);
        x = withMatches();
        x.drop();
        due("gone behind drop()", x.told(2), 0);
        x = withMatches();
        Checks.pattern(x, "A");
        due("gone behind pattern()", x.told(2), 0);
        due("match gone", x.match(0, 0), -1);
        due("rows in none", x.told(8), 3);
        x = withMatches();
        Checks.define(x, "Z=");
        due("gone behind define()", x.told(2), 0);
        x = withMatches();
        Checks.define(x, "A=x=2");
        due("run again", x.run(), 1);
        due("the latest run's", x.match(0, 0), 1);
        due("the latest run's", x.match(1, 0), -1);
    }

    private static void told() {
        RowPatterns x = withMatches();
        Checks.pattern(x, "AB?");
        Checks.define(x, "C=x>1;B=x=2");
        x.mode(2, 9);
        x.run();
        x.feed(1);
        x.feed(2);
        int[] want = {3, 4, 3, 2, 9, 1, 5000, 6, 0, 2};
        for (int i = 0; i < want.length; i++) {
            due("told " + i, x.told(i), want[i]);
        }
        due("told none", x.told(10), -1);
        due("told none", x.told(-1), -1);
    }

    private static void lists() {
        RowPatterns x = new RowPatterns();
        for (int none : new int[] {-1, 4, BIG, LOW}) {
            due("list", x.list(none, 3), -1);
            due("put", x.put(none, 0, 3), -1);
            due("get", x.get(none, 0), NO);
            due("move", x.move(none, 0, 0, 0, 0), -1);
            due("move", x.move(0, 0, none, 0, 0), -1);
            due("lay", x.lay(none, 0, 0, 0, 0), -1);
            due("judge", x.judge(none, 0, 0, 0, 0), -1);
        }
        due("list", x.list(0, 41), -2);
        due("list", x.list(0, -1), -14);
        due("nothing held", x.put(0, 0, 1), -11);
        due("nothing held", x.get(0, 0), NO);
        due("list", x.list(0, 40), 1);
        due("zeros", x.get(0, 39), 0);
        due("put", x.put(0, 39, Long.MAX_VALUE), 1);
        due("get", x.get(0, 39), Long.MAX_VALUE);
        due("put beyond", x.put(0, 40, 1), -13);
        due("put beyond", x.put(0, -1, 1), -13);
        due("get beyond", x.get(0, 40), NO);
        due("get beyond", x.get(0, -1), NO);
        due("list again", x.list(0, 40), 1);
        due("all 0", x.get(0, 39), 0);
        due("empty", x.list(3, 0), 1);
        due("empty", x.put(3, 0, 1), -13);
        due("nothing of nothing", x.move(3, 0, 3, 0, 0), 0);
        due("something of nothing", x.move(3, 0, 0, 0, 1), -13);
        due("list", x.list(1, 5), 1);
        for (int i = 0; i < 5; i++) {
            x.put(1, i, i + 1);
        }
        due("move nothing held", x.move(1, 0, 2, 0, 0), -11);
        due("move nothing held", x.move(2, 0, 1, 0, 0), -11);
        due("move to the same", x.move(1, 0, 1, 1, 4), 4);
        Checks.due("as they were", all(x, 1), "1 1 2 3 4");
        due("move to the same", x.move(1, 1, 1, 0, 4), 4);
        Checks.due("as they were", all(x, 1), "1 2 3 4 4");
        x.list(2, 3);
        due("move", x.move(1, 2, 2, 1, 2), 2);
        Checks.due("moved", all(x, 2), "0 3 4");
        due("move none at the end", x.move(1, 5, 2, 3, 0), 0);
        for (int[] beyond : new int[][] {{0, 0, -1}, {-1, 0, 1}, {0, -1, 1}, {4, 0, 2}, {0, 2, 2}, {6, 0, 0}, {0, 4, 0},
            {BIG, 0, 1}, {0, BIG, 1}, {0, 0, BIG}, {1, 1, BIG}, {LOW, 0, LOW}, {0, 0, 4}}) {
            due("move beyond", x.move(1, beyond[0], 2, beyond[1], beyond[2]), -13);
        }
        Checks.due("as it was", all(x, 2), "0 3 4");
    }

    private static String all(RowPatterns x, int list) {
        StringBuilder out = new StringBuilder();
        for (int i = 0; x.get(list, i) != NO; i++) {
            out.append(i > 0 ? " " : "").append(x.get(list, i));
        }
        return out.toString();
    }

    private static void layAndJudge() {
        RowPatterns x = Checks.rows(11, 12, 13, 14);
        Checks.pattern(x, "AB?");
        due("nothing held", x.lay(0, 0, 0, 0, 0), -11);
        due("nothing held", x.judge(0, 0, 0, 0, 0), -11);
        x.list(0, 3);
        due("lay without matches", x.lay(0, 0, 0, 0, 0), 0);
        due("lay without matches, wherever", x.lay(0, 99, 0, 0, 0), 0);
        due("judge without matches", x.judge(0, 0, 0, 0, 0), -5);
        due("judge without matches", x.judge(0, -9, 0, 0, 0), -5);
        due("judge without matches", x.judge(0, 99, 0, 0, 0), -5);
        due("run", x.run(), 2);
        x.list(3, 0);
        due("lay, no place at all", x.lay(3, 0, 0, 0, 0), -13);
        due("judge, no place at all", x.judge(3, 0, 0, 0, 0), 100);
        due("lay letter", x.lay(0, 0, 27, 0, 0), -1);
        due("lay letter", x.lay(0, 0, -1, 0, 0), -1);
        due("lay column", x.lay(0, 0, 0, 2, 0), -1);
        due("lay measure", x.lay(0, 0, 0, 0, 7), -1);
        due("judge letter", x.judge(0, 0, 27, 0, 0), -1);
        due("judge column", x.judge(0, 0, 0, -1, 0), -1);
        due("judge measure", x.judge(0, 0, 0, 0, -1), -1);
        due("none comes ahead of nothing", x.lay(1, 0, 27, 0, 0), -1);
        due("none comes ahead of nothing", x.judge(1, 0, 27, 0, 0), -1);
        due("lay", x.lay(0, 1, 1, 0, 1), 2);
        Checks.due("laid", all(x, 0), "0 12 14");
        due("judge", x.judge(0, 1, 1, 0, 1), -5);
        due("judge", x.judge(0, 0, 1, 0, 1), 0);
        x.put(0, 2, 7);
        due("judge", x.judge(0, 1, 1, 0, 1), 1);
        due("judge ends ahead", x.judge(0, 2, 1, 0, 1), 0);
        due("lay beyond", x.lay(0, 2, 1, 0, 1), -13);
        Checks.due("what had a place is there", all(x, 0), "0 12 12");
        due("judge ends ahead", x.judge(0, 2, 1, 0, 1), 101);
        due("judge ends ahead", x.judge(0, 3, 1, 0, 1), 100);
        due("judge ends ahead", x.judge(0, BIG, 1, 0, 1), 100);
        due("judge below", x.judge(0, -1, 1, 0, 1), 100);
        due("lay below", x.lay(0, -1, 26, 0, 1), -13);
        due("lay beyond", x.lay(0, BIG, 26, 0, 1), -13);
        Checks.due("as it was", all(x, 0), "0 12 12");
        due("lay NO", x.lay(0, 0, 5, 0, 2), 2);
        due("laid NO", x.get(0, 0), NO);
        due("judged NO", x.judge(0, 0, 5, 0, 2), -5);
    }

    private static void images() {
        RowPatterns x = Checks.rows(1, 2, 3);
        Checks.pattern(x, "AB?");
        Checks.define(x, "B=x>2");
        x.mode(2, 1);
        x.empties(0);
        x.may(100);
        x.run();
        x.list(0, 2);
        x.spell();
        Checks.feed(x, "Q");
        due("image", x.image(), 3);
        int before = x.told(2);
        x.row(9, 9);
        x.set(0, 7, 7);
        Checks.pattern(x, "RC");
        due("fault", x.told(9), 0);
        Checks.pattern(x, "C");
        Checks.define(x, "B=;C=x>8");
        x.mode(1, 3);
        x.empties(1);
        x.may(5000);
        x.run();
        x.put(0, 1, 5);
        x.spell();
        Checks.feed(x, "XYZ");
        due("undo", x.undo(), 3);
        due("cell", x.cell(0, 0), 1);
        due("parts", x.told(1), 4);
        due("matches", x.told(2), before);
        due("match", x.match(0, 1), 1);
        due("match", x.label(1, 2), 1);
        due("mode", x.told(3), 2);
        due("letter", x.told(4), 1);
        due("empties", x.told(5), 0);
        due("may", x.told(6), 100);
        due("conditions", x.told(7), 2);
        due("tape stays", x.told(9), 3);
        Checks.due("paper stays", Checks.paper(x), "C");
        due("lists stay", x.get(0, 1), 5);
        x.drop();
        due("undo again", x.undo(), 3);
        due("matches again", x.told(2), before);
        x.run();
        due("image again", x.image(), 3);
        x.drop();
        due("drop", x.image(), 2);
        due("undo to the latest", x.undo(), 2);
        due("no matches then", x.told(2), 0);
    }
}
