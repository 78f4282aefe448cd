/** The edges of CONDITIONS, as texts and in what they mean; beside each test its sentence. */
public final class ConditionEdgesTest {
    private static final int[] ENDS = {Checks.LEAST, Checks.LEAST + 1, Checks.MOST - 1, Checks.MOST};

    public static void main(String[] args) {
        withoutOneAtFirst();
        lettersWithConditions();
        oneOrMoreParts();
        nothingTakesAway();
        defineAnswers();
        faultDoesNothing();
        numberOfFigures();
        firstByte();
        endsTooEarly();
        alternatives();
        fourBrackets();
        tests();
        numbers();
        operandsAsTexts();
        ofTheRow();
        besideInTheTable();
        firstAndLastSoFar();
        sums();
        counts();
        eachLetterSoFar();
        missing();
        missingOfSums();
        fromStartOn();
        holdsAnswers();
        Checks.end();
    }

    private static void due(String what, long got, long want) {
        Checks.due(what, got, want);
    }

    /** The text has that FAULT; the CONDITIONS that were stay. */
    private static void fault(String text, int at) {
        RowPatterns x = Checks.rows(5);
        Checks.define(x, "C=x=1");
        due("define " + text, Checks.define(x, text), -100 - at);
        due("LETTERS with a CONDITION behind " + text, x.told(7), 4);
        due("the CONDITION behind " + text, x.holds(2, 0), 0);
    }

    private static void good(String text, int parts) {
        RowPatterns x = Checks.rows(5);
        due("define " + text, Checks.define(x, text), parts);
    }

    /** ROWS 5 and MISSING, 7 and 2, -3 and 3, MISSING and -999. */
    private static void holdsDue(String condition, int row, int want) {
        RowPatterns x = new RowPatterns();
        x.row(5, 1000);
        x.row(7, 2);
        x.row(-3, 3);
        x.row(1000, -999);
        due("define " + condition, Checks.define(x, "A=" + condition), 1);
        due(condition + " at " + row, x.holds(0, row), want);
    }

    private static void withoutOneAtFirst() {
        Checks.says("each with a CONDITION or without one (all so at first).");
        RowPatterns x = Checks.rows(1);
        due("LETTERS with one", x.told(7), 0);
        for (int letter = 0; letter < 26; letter++) {
            due("without one it holds", x.holds(letter, 0), 1);
        }
        Checks.define(x, "A=x=2;Z=x=2");
        due("LETTERS with one", x.told(7), 1 | 1 << 25);
        due("the first", x.holds(0, 0), 0);
        due("the last", x.holds(25, 0), 0);
        due("one between", x.holds(1, 0), 1);
        due("one between", x.holds(24, 0), 1);
    }

    private static void lettersWithConditions() {
        Checks.says("LETTERS are A .. Z (0 .. 25), each with a CONDITION or without one");
        good("A=x<1", 1);
        good("Z=x<1", 1);
        fault("@=x<1", 0);
        fault("[=x<1", 0);
        fault("a=x<1", 0);
        fault("A=x<1;@=", 6);
        fault("A=x<1;[=", 6);
        for (String kind : new String[] {"f", "l", "s"}) {
            good("A=" + kind + "Ax<1", 1);
            good("A=" + kind + "Zy<1", 1);
            fault("A=" + kind + "@x<1", 3);
            fault("A=" + kind + "[x<1", 3);
        }
        good("A=cA<1", 1);
        good("A=cZ<1", 1);
        fault("A=c@<1", 3);
        fault("A=c[<1", 3);
    }

    private static void oneOrMoreParts() {
        Checks.says("CONDITIONS: parts, one or more, parted by ; :");
        fault("", 0);
        good("A=", 1);
        good("A=;B=", 2);
        good("A=1=1;A=1=1;A=", 3);
        good("A=;".repeat(39) + "A=", 40);
        fault("A=;".repeat(40), 120);
        fault(";", 0);
        fault("A=;;", 3);
        fault("A=;", 3);
        fault(";A=", 0);
        fault("A=B=", 2);
    }

    private static void nothingTakesAway() {
        Checks.says("and C (the LETTER has that CONDITION then), or nothing (it has none then).");
        RowPatterns x = Checks.rows(5);
        due("a CONDITION", Checks.define(x, "B=x=1"), 1);
        due("it doesn't hold", x.holds(1, 0), 0);
        due("another", Checks.define(x, "B=x=5"), 1);
        due("it holds", x.holds(1, 0), 1);
        due("others stay", Checks.define(x, "A=x=1"), 1);
        due("both have one", x.told(7), 3);
        due("nothing", Checks.define(x, "B="), 1);
        due("it has none", x.told(7), 1);
        due("the other doesn't hold", x.holds(0, 0), 0);
        due("nothing where nothing was", Checks.define(x, "B="), 1);
        due("nothing ahead of another part", Checks.define(x, "A=;C=x=1"), 2);
        due("bits", x.told(7), 4);
        due("all at the end", Checks.define(x, "C="), 1);
        due("bits", x.told(7), 0);
    }

    private static void defineAnswers() {
        Checks.says("THE TAPE is CONDITIONS: how many parts; -100 less the FAULT.");
        RowPatterns x = Checks.table(1, "A");
        due("the least FAULT", x.define(), -100);
        due("the greatest FAULT", Checks.define(x, "A=;".repeat(40)), -220);
        due("the fewest parts", Checks.define(x, "A="), 1);
        due("the most parts", Checks.define(x, "A=;".repeat(39) + "Z="), 40);
        x.run();
        due("MATCHES", x.told(2), 1);
        due("a part that takes nothing away does something", Checks.define(x, "Y="), 1);
        due("MATCHES", x.told(2), 0);
    }

    private static void faultDoesNothing() {
        Checks.says("A text with a FAULT does nothing.");
        RowPatterns x = Checks.table(1, "A");
        Checks.define(x, "B=x=7");
        x.run();
        due("a FAULT behind whole parts", Checks.define(x, "A=x=9;B=;C=x=1;d"), -115);
        due("bits", x.told(7), 2);
        due("A has none", x.holds(0, 0), 1);
        due("B has its own", x.holds(1, 0), 0);
        due("MATCHES stay", x.told(2), 1);
        due("a FAULT at the end", Checks.define(x, "A=x=9;B="), 2);
        due("now it does", x.told(7), 1);
    }

    private static void numberOfFigures() {
        Checks.says("A number is as many figures as stand there, so many at most.");
        holdsDue("7=x", 1, 1);
        holdsDue("07=x", 1, 1);
        holdsDue("007=x", 1, 1);
        holdsDue("77=x", 1, 0);
        holdsDue("-999=y", 3, 1);
        holdsDue("-99=y", 3, 0);
        fault("A=1234<x", 5);
        fault("A=0007=x", 5);
        fault("A=-1234<x", 6);
        fault("A=x<1234", 7);
        fault("A=x<-1234", 8);
    }

    private static void firstByte() {
        Checks.says("otherwise the place (from 0) of the first byte with which no such text goes on;");
        fault("=", 0);
        fault("1=", 0);
        fault("Ax", 1);
        fault("A==", 2);
        fault("A= x<1", 2);
        fault("A=z<1", 2);
        fault("A=X<1", 2);
        fault("A=x<1B=", 5);
        fault("A=x<1,B=", 5);
        fault("A=x<1)", 5);
        fault("A=(x<1;", 6);
        fault("A=x&y", 3);
        fault("A=!;", 3);
        fault("A=()", 3);
        fault("A=" + "1=1&".repeat(29) + "x?", 119);
    }

    private static void endsTooEarly() {
        Checks.says("the length, if it ends too early.");
        String[] early = {"", "A", "A=x", "A=x<", "A=x=", "A=x>", "A=1", "A=123", "A=-", "A=x<-", "A=p", "A=n", "A=f", "A=fA",
            "A=l", "A=lA", "A=s", "A=sA", "A=c", "A=cA", "A=px", "A=x<p", "A=x<fA", "A=x<c", "A=(", "A=!", "A=((", "A=!!",
            "A=(x<1", "A=((x<1)", "A=x<1|", "A=x<1&", "A=x<1;", "A=;", "A=x<1;B", "A=" + "1=1&".repeat(29) + "1", "A=" + "1=1&".repeat(29) + "1="};
        for (String text : early) {
            fault(text, text.length());
        }
        good("A=" + "1=1&".repeat(28) + "1=1", 1);
        good("A=" + "1=1&".repeat(28) + "-11=11", 1);
    }

    private static void alternatives() {
        Checks.says("C: D or D|C. D: F or F&D. F: !F, (C), or a TEST:");
        fault("A=|x<1", 2);
        fault("A=&x<1", 2);
        fault("A=x<1||x<2", 6);
        fault("A=x<1&&x<2", 6);
        fault("A=x<1&|x<2", 6);
        fault("A=x<1|&x<2", 6);
        fault("A=x<1!x<2", 5);
        fault("A=x<1(x<2)", 5);
        fault("A=!|x<1", 3);
        holdsDue("x=5|x=7", 1, 1);
        holdsDue("x=5&x=7", 1, 0);
        holdsDue("x=7|x=5&y=9", 1, 1);
        holdsDue("(x=7|x=5)&y=9", 1, 0);
        holdsDue("y=9&x=5|x=7", 1, 1);
        holdsDue("y=9&(x=5|x=7)", 1, 0);
        // A ! is of the F behind it alone.
        holdsDue("!x=7&y=9", 1, 0);
        holdsDue("!(x=7&y=9)", 1, 1);
        holdsDue("!x=7|y=2", 1, 1);
        holdsDue("!(x=7|y=2)", 1, 0);
        holdsDue("!!x=7", 1, 1);
        holdsDue("1=1|".repeat(20) + "1=2", 1, 1);
        holdsDue("1=2|".repeat(20) + "1=1", 1, 1);
        holdsDue("1=1&".repeat(20) + "1=2", 1, 0);
        holdsDue("1=1&".repeat(20) + "1=1", 1, 1);
    }

    private static void fourBrackets() {
        Checks.says("A ( or ! within 4 others of these is none.");
        good("A=!!!!x<1", 1);
        fault("A=!!!!!x<1", 6);
        good("A=((((x<1))))", 1);
        fault("A=(((((x<1)))))", 6);
        good("A=!(!(x<1))", 1);
        fault("A=!(!(!x<1))", 6);
        good("A=(!(!x<1))", 1);
        fault("A=(!(!(x<1)))", 6);
        fault("A=!!!!(x<1)", 6);
        good("A=!!!!x<1&!!!!x<2|((((x<3))))", 1);
        good("A=(((!x<1)&!x<2)&(!x<3))", 1);
        good("A=(((!x<1)&(!x<3)))", 1);
        fault("A=(((!x<1)&(!(x<3))))", 13);
        fault("A=(((!!x<1)))", 6);
        // One that has ended is no other to be within.
        good("A=((((x<1)))&!x<2&(((x<1))))", 1);
        fault("A=((((x<1)))&!x<2&((((x<1)))))", 21);
    }

    private static void tests() {
        Checks.says("a TEST: an OPERAND, < or = or >, an OPERAND.");
        fault("A=x", 3);
        fault("A=x<", 4);
        fault("A=<1", 2);
        fault("A=x>=1", 4);
        fault("A=x<>1", 4);
        fault("A=x<1<2", 5);
        fault("A=x:1", 3);
        holdsDue("x<7", 1, 0);
        holdsDue("x<8", 1, 1);
        holdsDue("x=6", 1, 0);
        holdsDue("x=7", 1, 1);
        holdsDue("x=8", 1, 0);
        holdsDue("x>7", 1, 0);
        holdsDue("x>6", 1, 1);
        holdsDue("1<2", 1, 1);
        holdsDue("2<1", 1, 0);
        holdsDue("2>1", 1, 1);
        holdsDue("999>-999", 1, 1);
        holdsDue("-999<-998", 1, 1);
        holdsDue("-998<-999", 1, 0);
        holdsDue("-999>-998", 1, 0);
    }

    private static void numbers() {
        Checks.says("OPERAND: a number of 1 to 3 figures, - ahead of it, if one likes;");
        fault("A=<1", 2);
        fault("A=-<1", 3);
        fault("A=--1<1", 3);
        fault("A=+1<1", 2);
        fault("A=-x<1", 3);
        fault("A=1-<1", 3);
        // The bytes beside the figures' own.
        fault("A=/<1", 2);
        fault("A=:<1", 2);
        fault("A=1/<1", 3);
        fault("A=1:<1", 3);
        fault("A=x</", 4);
        fault("A=x<9:", 5);
        good("A=1<9", 1);
        good("A=12<99", 1);
        good("A=123<999", 1);
        good("A=-1<-9", 1);
        good("A=-123<-999", 1);
        fault("A=1000<x", 5);
        fault("A=x<1000", 7);
        holdsDue("-0=0", 0, 1);
        holdsDue("000=-000", 0, 1);
        holdsDue("x=-3", 2, 1);
        holdsDue("x=3", 2, 0);
        holdsDue("x=-003", 2, 1);
        RowPatterns x = new RowPatterns();
        x.row(999, -999);
        Checks.define(x, "A=x=999;B=y=-999;C=x>998&y<-998;D=x<999|y>-999;E=x>999|y<-999");
        int[] want = {1, 1, 1, 0, 0};
        for (int letter = 0; letter < want.length; letter++) {
            due("the ends of a number " + letter, x.holds(letter, 0), want[letter]);
        }
    }

    private static void operandsAsTexts() {
        Checks.says("x or y, that of the ROW; p or n with x or y behind:");
        good("A=x<y", 1);
        good("A=px<ny", 1);
        fault("A=xx<1", 3);
        fault("A=p<1", 3);
        fault("A=pz<1", 3);
        fault("A=pp<1", 3);
        fault("A=n1<1", 3);
        fault("A=pA<1", 3);
        fault("A=x<pz", 5);
        for (String kind : new String[] {"f", "l", "s"}) {
            fault("A=" + kind + "<1", 3);
            fault("A=" + kind + "x<1", 3);
            fault("A=" + kind + "A<1", 4);
            fault("A=" + kind + "AB<1", 4);
            fault("A=" + kind + "Axx<1", 5);
        }
        fault("A=cx<1", 3);
        fault("A=cAx<1", 4);
    }

    private static void ofTheRow() {
        Checks.says("x or y, that of the ROW;");
        holdsDue("x=5", 0, 1);
        holdsDue("y=2", 1, 1);
        holdsDue("x=2", 1, 0);
        holdsDue("x=5", 1, 0);
        holdsDue("y=-999", 3, 1);
        holdsDue("x>y", 1, 1);
    }

    private static void besideInTheTable() {
        Checks.says("of the ROW ahead of it, or behind it, in the table;");
        holdsDue("px=5", 1, 1);
        holdsDue("nx=-3", 1, 1);
        holdsDue("py=2", 2, 1);
        holdsDue("ny=-999", 2, 1);
        // At the table's ends there is none.
        for (String test : new String[] {"px=px", "px<999", "px>-999", "py<999", "py>-999", "py=py"}) {
            holdsDue(test, 0, 0);
            holdsDue("!" + test, 0, 1);
        }
        for (String test : new String[] {"nx=nx", "nx<999", "nx>-999", "ny<999", "ny>-999", "ny=ny"}) {
            holdsDue(test, 3, 0);
            holdsDue("!" + test, 3, 1);
        }
        // A ROW that is gone isn't there; one ahead of START is.
        RowPatterns x = Checks.table(32, "A");
        Checks.define(x, "A=px=30;B=nx=31");
        due("the last of 32", x.holds(0, 31), 1);
        due("behind the last but one", x.holds(1, 30), 1);
        due("ahead of START", x.first(31), 1);
        x.drop();
        due("behind it none is left", x.holds(1, 30), 0);
    }

    private static void firstAndLastSoFar() {
        Checks.says("f or l with a LETTER and x or y behind: of the first or last ROW with that LETTER so far (itself, too);");
        holdsDue("fAx=7", 1, 1);
        holdsDue("lAx=7", 1, 1);
        holdsDue("fAy=2&lAy=2", 1, 1);
        for (String test : new String[] {"fBx=fBx", "fBx<999", "fBx>-999", "lBy<999", "lBy>-999", "lBy=lBy"}) {
            holdsDue(test, 1, 0);
            holdsDue("!" + test, 1, 1);
        }
        RowPatterns x = Checks.rows(4, 9, 2, 7);
        Checks.pattern(x, "AABA");
        Checks.define(x, "A=fAx=4&lAx=x;B=fBx=2&lBx=2&fAx=4&lAx=9");
        Checks.due("the first, the last and itself", Checks.preferred(x, 0), "AABA");
        Checks.define(x, "A=;B=lAx=4");
        Checks.due("the last A is no longer the first", Checks.preferred(x, 0), "-5");
        Checks.define(x, "B=fAx=9");
        Checks.due("the first A is not the last", Checks.preferred(x, 0), "-5");
        // What was tried and failed is not so far.
        x = Checks.rows(1, 2, 3);
        Checks.pattern(x, "(AA|AB)C");
        Checks.define(x, "C=cA=1&lAx=1&fBx=2");
        Checks.due("of the way alone", Checks.preferred(x, 0), "ABC");
    }

    private static void sums() {
        Checks.says("s likewise: those of all such ROWS, added up;");
        holdsDue("sAx=7", 1, 1);
        holdsDue("sAy=2", 1, 1);
        holdsDue("sBx=0", 1, 1);
        holdsDue("!sBx=0", 1, 0);
        RowPatterns x = Checks.rows(500, 500, -999, 999, 999);
        Checks.pattern(x, "AABAC");
        Checks.define(x, "C=sAx>999&sBx=-999&sCx=999&!sAx=999");
        Checks.due("sums", Checks.preferred(x, 0), "AABAC");
        // A sum of 1000 is a number, and not what is MISSING.
        Checks.pattern(x, "AAB");
        Checks.define(x, "B=sAx>999;A=");
        Checks.due("a sum of 1000", Checks.preferred(x, 0), "AAB");
        // The greatest and the least sums, of all 32 ROWS.
        RowPatterns all = new RowPatterns();
        for (int i = 0; i < 32; i++) {
            all.row(999, -999);
        }
        Checks.pattern(all, "A{32}");
        Checks.define(all, "A=sAx>998&sAy<-998&fAx=lAx");
        due("sums of 32", all.first(0), 32);
    }

    private static void counts() {
        Checks.says("c and a LETTER: how many such ROWS there are so far.");
        holdsDue("cA=1", 1, 1);
        holdsDue("cA=0", 1, 0);
        holdsDue("cB=0", 1, 1);
        holdsDue("cB<1", 1, 1);
        holdsDue("cZ=0", 3, 1);
        // ROWS that lack a number are such ROWS, too.
        holdsDue("cA=1", 3, 1);
        RowPatterns x = Checks.table(32, "A*");
        Checks.define(x, "A=cA<32");
        due("31 of them", x.first(0), 31);
        Checks.define(x, "A=cA<33");
        due("32 of them", x.first(0), 32);
        due("from START on", x.first(30), 2);
        Checks.define(x, "A=cA=1");
        due("itself alone", x.first(31), 1);
    }

    private static void eachLetterSoFar() {
        Checks.says("of the first or last ROW with that LETTER so far (itself, too);");
        // Each LETTER is taken as itself, and as none of the others.
        for (int i = 0; i < 26; i++) {
            char one = (char) ('A' + i);
            char other = (char) ('A' + (i + 1) % 26);
            RowPatterns x = new RowPatterns();
            x.row(7, -2);
            x.row(8, -3);
            Checks.pattern(x, "" + one + other);
            Checks.define(x, other + "=c" + one + "=1&f" + one + "x=7&l" + one + "y=-2&s" + one + "x=7&s" + one + "y=-2");
            due("the LETTER " + one + " ahead", x.first(0), 2);
            Checks.define(x, other + "=c" + other + "=1&f" + other + "y=-3&l" + other + "x=8&s" + other + "y=-3");
            due("the LETTER " + other + " itself", x.first(0), 2);
            due("the LETTER " + other + " itself", x.holds((i + 1) % 26, 1), 1);
        }
    }

    private static void missing() {
        Checks.says("A TEST in which something is MISSING, or a ROW isn't there, doesn't hold");
        for (String test : new String[] {"y<999", "y>-999", "y=0", "y=y", "999>y", "-999<y", "0=y", "x=y", "y=x", "fAy<999",
            "lAy>-999", "fAy=lAy"}) {
            holdsDue(test, 0, 0);
            holdsDue("!" + test, 0, 1);
        }
        // 1000 tells that it is MISSING; 999 is a number.
        RowPatterns x = new RowPatterns();
        x.row(999, 1000);
        x.row(1000, 999);
        Checks.define(x, "A=x>998;B=y>998;C=px>998;D=ny>998;E=nx>998;F=py>998");
        due("X of the first", x.holds(0, 0), 1);
        due("Y of the first", x.holds(1, 0), 0);
        due("X of the second", x.holds(0, 1), 0);
        due("Y of the second", x.holds(1, 1), 1);
        due("X ahead", x.holds(2, 1), 1);
        due("Y behind", x.holds(3, 0), 1);
        due("X behind", x.holds(4, 0), 0);
        due("Y ahead", x.holds(5, 1), 0);
        // The first with the LETTER is the first, even if it lacks the number.
        x = new RowPatterns();
        x.row(1000, 1);
        x.row(5, 2);
        x.row(1000, 3);
        Checks.pattern(x, "AAAB");
        x.row(6, 4);
        Checks.define(x, "B=fAx=5");
        due("the first lacks it", x.first(0), -5);
        Checks.define(x, "B=lAx=5");
        due("the last lacks it", x.first(0), -5);
        Checks.define(x, "B=fAy=1&lAy=3");
        due("the other column", x.first(0), 4);
    }

    private static void missingOfSums() {
        Checks.says("(of s: none is MISSING, they are passed over).");
        holdsDue("sAy=0", 0, 1);
        holdsDue("sAx=0", 3, 1);
        holdsDue("!sAx=0", 3, 0);
        RowPatterns x = new RowPatterns();
        x.row(1000, 7);
        x.row(5, 1000);
        x.row(1000, 1000);
        x.row(-2, 4);
        Checks.pattern(x, "A*");
        Checks.define(x, "A=cA=1&sAx=0&sAy=7|cA=2&sAx=5&sAy=7|cA=3&sAx=5&sAy=7|sAx=3&sAy=11");
        due("those that lack it are passed over", x.first(0), 4);
    }

    private static void fromStartOn() {
        Checks.says("worked out with the LETTERS of the ROWS ahead of it from START on, and itself.");
        RowPatterns x = Checks.rows(1, 2, 3, 4);
        Checks.pattern(x, "A*");
        Checks.define(x, "A=cA<3");
        due("from the first", x.first(0), 2);
        due("from the next", x.first(1), 2);
        due("from the last but one", x.first(2), 2);
        due("from the last", x.first(3), 1);
        due("from behind the last", x.first(4), 0);
        Checks.define(x, "A=fAx=3");
        due("the first is START", x.first(2), 2);
        due("the first is START", x.first(1), 0);
        Checks.define(x, "A=sAx<8");
        due("1, 2, 3", x.first(0), 3);
        due("2, 3", x.first(1), 2);
        due("3, 4", x.first(2), 2);
    }

    private static void holdsAnswers() {
        Checks.says("Whether a LETTER's CONDITION holds at a ROW, were START there: 1, 0. NONE: either.");
        RowPatterns x = Checks.table(32, "(A|B)*");
        x.first(0);
        Checks.define(x, "A=cA=1&cB=0;B=fBx=31;Z=x=0");
        due("START is there", x.holds(0, 31), 1);
        due("the last ROW", x.holds(1, 31), 1);
        due("another ROW", x.holds(1, 30), 0);
        due("the first ROW", x.holds(25, 0), 1);
        due("LETTER -1", x.holds(-1, 0), -1);
        due("LETTER 26", x.holds(26, 0), -1);
        due("ROW -1", x.holds(0, -1), -1);
        due("ROW 32", x.holds(0, 32), -1);
        for (int none : ENDS) {
            due("LETTER " + none, x.holds(none, 0), -1);
            due("ROW " + none, x.holds(0, none), -1);
            due("both " + none, x.holds(none, none), -1);
        }
        x.drop();
        due("a ROW that is gone", x.holds(0, 31), -1);
        due("the last one", x.holds(0, 30), 1);
        due("of no ROWS", new RowPatterns().holds(0, 0), -1);
    }
}
