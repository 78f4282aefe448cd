/** The edges of patterns as texts, of their PARTS and of what is SPELLED; beside each test its sentence. */
public final class PatternEdgesTest {
    private static final int[] ENDS = {Checks.LEAST, Checks.LEAST + 1, Checks.MOST - 1, Checks.MOST};

    public static void main(String[] args) {
        patternAtFirst();
        letters();
        numbersOfFigures();
        numberThatMayNotBe();
        leastPlace();
        firstByte();
        endsTooEarly();
        faultDoesNothing();
        faultAnswers();
        tapeBehindReading();
        alternativesHaveText();
        oneOrMore();
        oneRepetition();
        zeroAlone();
        figuresOfTheTwo();
        mostNotLess();
        moreOrLess();
        orderedTwoToFour();
        fiveBrackets();
        fourthComma();
        orderedCountsAsBracket();
        numbersOfParts();
        twoOrMore();
        bracketsAreNoPart();
        mostParts();
        partAnswers();
        partsFacts();
        spelledBrackets();
        spelledRepetitions();
        spelledNumbers();
        paperHoldsTheLatest();
        spellAnswers();
        paperAnswers();
        Checks.end();
    }

    private static void due(String what, long got, long want) {
        Checks.due(what, got, want);
    }

    /** The text has that FAULT; the PATTERN that was stays. */
    private static void fault(String text, int at) {
        RowPatterns x = new RowPatterns();
        Checks.pattern(x, "ZZ");
        due("pattern " + text, Checks.pattern(x, text), -100 - at);
        due("PARTS behind " + text, x.told(1), 3);
        due("a LETTER behind " + text, x.part(0, 1), 25);
    }

    private static void good(String text, int parts) {
        RowPatterns x = new RowPatterns();
        due("pattern " + text, Checks.pattern(x, text), parts);
        due("PARTS of " + text, x.told(1), parts);
    }

    private static void patternAtFirst() {
        Checks.says("There is a PATTERN, or none (at first).");
        RowPatterns x = Checks.rows(1);
        due("PARTS", x.told(1), 0);
        due("part", x.part(0, 0), -1);
        due("spell", x.spell(), -3);
        due("first", x.first(0), -3);
        due("run", x.run(), -3);
        due("with a FAULT there is still none", Checks.pattern(x, "A|"), -102);
        due("spell", x.spell(), -3);
        due("now there is one", Checks.pattern(x, "A"), 1);
        due("spell", x.spell(), 1);
        due("first", x.first(0), 1);
    }

    private static void letters() {
        Checks.says("LETTERS are A .. Z (0 .. 25)");
        for (int i = 0; i < 26; i++) {
            RowPatterns x = new RowPatterns();
            due("pattern", Checks.pattern(x, String.valueOf((char) ('A' + i))), 1);
            due("its LETTER", x.part(0, 1), i);
        }
        fault("@", 0);
        fault("[", 0);
        fault("a", 0);
        fault("A@", 1);
        fault("Z[", 1);
        fault("z", 0);
        fault("" + (char) 1, 0);
        fault("" + (char) 127, 0);
    }

    private static void numbersOfFigures() {
        Checks.says("A number is as many figures as stand there, so many at most.");
        RowPatterns x = new RowPatterns();
        Checks.pattern(x, "A{12,34}");
        due("both figures of n", x.part(1, 3), 12);
        due("both figures of m", x.part(1, 4), 34);
        Checks.pattern(x, "A{1,2}");
        due("one figure of n", x.part(1, 3), 1);
        due("one figure of m", x.part(1, 4), 2);
        Checks.pattern(x, "A{07,08}");
        due("a figure 0 ahead of n", x.part(1, 3), 7);
        due("a figure 0 ahead of m", x.part(1, 4), 8);
        // Two figures are taken, the third is what no text goes on with.
        fault("A{123}", 4);
        fault("A{1,234}", 6);
        fault("A{012}", 4);
        fault("A{1,001}", 4);
        // What stands there is the whole number, even if the text could have more of it.
        fault("A{25,3", 5);
        fault("A{25,24", 5);
    }

    private static void numberThatMayNotBe() {
        Checks.says("of a number that may not be (looked at as soon as it is taken), where it begins;");
        fault("A{5,3}", 4);
        fault("A{5,3", 4);
        fault("A{5,3x", 4);
        fault("A{12,11}", 5);
        fault("A{12,11}?", 5);
        fault("A{12,11", 5);
        fault("A{12,111", 5);
        fault("A{0,0}", 4);
        fault("A{0,00", 4);
        fault("A{1,0|", 4);
    }

    private static void leastPlace() {
        Checks.says("FAULT of a text (of several the least place):");
        fault("A{5,3}a", 4);
        fault("a{5,3}", 0);
        fault("AaA{5,3}", 1);
        fault("A)a", 1);
        fault("%(A)%(A)", 3);
        fault("A{0}{0}", 3);
        fault("((((((A{2,1}", 5);
    }

    private static void firstByte() {
        Checks.says("otherwise the place (from 0) of the first byte with which no such text goes on;");
        fault("?", 0);
        fault(")", 0);
        fault("A)", 1);
        fault("A,B", 1);
        fault("A B", 1);
        fault("A1", 1);
        fault("A}", 1);
        fault("A{x}", 2);
        fault("A{1x}", 3);
        fault("A{1,x}", 4);
        fault("A{1,2x}", 5);
        fault("A{1?", 3);
        fault("A{1,2?", 5);
        fault("(A,B)", 2);
        fault("%A", 1);
        fault("%|", 1);
        fault("%(,", 2);
        fault("%(A,,", 4);
        fault("A".repeat(119) + "a", 119);
        fault("A".repeat(118) + "a" + "A", 118);
        fault("A".repeat(119) + ")", 119);
    }

    private static void endsTooEarly() {
        Checks.says("the length, if it ends too early.");
        String[] early = {"", "A|", "AB|", "(", "(A", "(A|", "((A)", "A{", "A{1", "A{0", "A{12", "A{1,", "A{0,", "A{1,2", "A{1,12",
            "%", "%(", "%(A", "%(A,", "%(A,B", "%(A,B,", "%(A,B,C", "%(A,B,C,", "%(A,B,C,D", "%(A,B,C,D|", "A*|", "^|",
            "A".repeat(119) + "|", "A".repeat(119) + "(", "A".repeat(119) + "%", "A".repeat(118) + "A{"};
        for (String text : early) {
            fault(text, text.length());
        }
        good("A".repeat(118) + "A*", 121);
    }

    private static void faultDoesNothing() {
        Checks.says("A text with a FAULT does nothing.");
        RowPatterns x = Checks.table(3, "A*B");
        x.run();
        x.spell();
        due("a FAULT at its end", Checks.pattern(x, "ABCD("), -105);
        due("PARTS", x.told(1), 4);
        Checks.due("spelled", Checks.spelled(x), "A*B");
        due("MATCHES stay", x.told(2), 1);
        due("first", x.first(0), 3);
        due("a FAULT at once", Checks.pattern(x, ""), -100);
        due("PARTS", x.told(1), 4);
        due("MATCHES stay", x.match(0, 1), 3);
    }

    private static void faultAnswers() {
        Checks.says("THE TAPE is the PATTERN then: how many PARTS it has; -100 less the FAULT.");
        RowPatterns x = new RowPatterns();
        due("the least FAULT", x.pattern(), -100);
        due("the greatest FAULT", Checks.pattern(x, "A".repeat(119) + "|"), -220);
        due("the fewest PARTS", Checks.pattern(x, "A"), 1);
        due("many PARTS", Checks.pattern(x, "A".repeat(120)), 121);
        due("fewer again", Checks.pattern(x, "A"), 1);
        due("none of the many is left", x.part(1, 0), -1);
    }

    private static void tapeBehindReading() {
        Checks.says("THE TAPE is empty behind each call that reads it.");
        RowPatterns x = Checks.rows(1);
        Checks.pattern(x, "A");
        due("behind pattern()", x.told(9), 0);
        Checks.pattern(x, "A(");
        due("behind a FAULT", x.told(9), 0);
        due("the next byte is the first", x.feed('B'), 1);
        due("what was there isn't read again", x.pattern(), 1);
        Checks.define(x, "A=x<1");
        due("behind define()", x.told(9), 0);
        Checks.define(x, "A=x<");
        due("behind a FAULT", x.told(9), 0);
        Checks.feed(x, "AB");
        x.spell();
        x.run();
        x.image();
        x.undo();
        due("not behind others", x.told(9), 2);
        due("all is still read", x.pattern(), 3);
    }

    private static void alternativesHaveText() {
        Checks.says("P: Q or Q|P.");
        good("A|B", 3);
        good("A|B|C", 4);
        fault("|A", 0);
        fault("A||B", 2);
        fault("A|", 2);
        fault("(|A)", 1);
        fault("(A|)", 3);
        fault("%(A|,B)", 4);
    }

    private static void oneOrMore() {
        Checks.says("Q: one or more R, one behind the other.");
        good("A", 1);
        good("AB", 3);
        fault("", 0);
        fault("()", 1);
        fault("%(,A)", 2);
        fault("%(A,)", 4);
        fault("*A", 0);
    }

    private static void oneRepetition() {
        Checks.says("R: an ATOM, or an ATOM with one of these behind it: * (least 0), + (1), ? (0, most 1),");
        String[] of = {"*", "+", "?"};
        int[] least = {0, 1, 0};
        int[] most = {100, 100, 1};
        for (int i = 0; i < of.length; i++) {
            RowPatterns x = new RowPatterns();
            Checks.pattern(x, "A" + of[i]);
            due("least of " + of[i], x.part(1, 3), least[i]);
            due("most of " + of[i], x.part(1, 4), most[i]);
            fault("A" + of[i] + "*", 2);
            fault("A" + of[i] + "+", 2);
            fault("A" + of[i] + "{1}", 2);
        }
        fault("A{1}*", 4);
        fault("A{1,}{2}", 5);
        good("^*$+", 5);
        good("%(A,B)?", 4);
        good("(A*)*", 3);
    }

    private static void zeroAlone() {
        Checks.says("{n} (n, n; 0 must have a , behind it: of {0} the FAULT is the }), {n,} (n), {n,m};");
        fault("A{0}", 3);
        fault("A{00}", 4);
        fault("A{0x", 3);
        fault("A{0?", 3);
        fault("A{000", 4);
        good("A{0,}", 2);
        good("A{00,}", 2);
        good("A{0,1}", 2);
        good("A{1}", 2);
        good("A{01}", 2);
        RowPatterns x = new RowPatterns();
        Checks.pattern(x, "A{0,}");
        due("n,: least", x.part(1, 3), 0);
        due("n,: no most", x.part(1, 4), 100);
        Checks.pattern(x, "A{99,}");
        due("n,: least", x.part(1, 3), 99);
        due("n,: no most", x.part(1, 4), 100);
        Checks.pattern(x, "A{1}");
        due("n: least", x.part(1, 3), 1);
        due("n: most", x.part(1, 4), 1);
        Checks.pattern(x, "A{99}");
        due("n: least", x.part(1, 3), 99);
        due("n: most", x.part(1, 4), 99);
    }

    private static void figuresOfTheTwo() {
        Checks.says("n, m of 1 or 2 figures");
        fault("A{}", 2);
        fault("A{,}", 2);
        fault("A{,1}", 2);
        fault("A{-1}", 2);
        // The bytes beside the figures' own.
        fault("A{/}", 2);
        fault("A{:}", 2);
        fault("A{1/}", 3);
        fault("A{1:}", 3);
        fault("A{1,/}", 4);
        fault("A{1,:}", 4);
        fault("A{1,2:}", 5);
        good("A{90,99}", 2);
        good("A{1}", 2);
        good("A{99}", 2);
        good("A{9,9}", 2);
        good("A{99,99}", 2);
        fault("A{100}", 4);
        fault("A{100,}", 4);
        fault("A{99,100}", 5);
        fault("A{9,100}", 6);
    }

    private static void mostNotLess() {
        Checks.says("m not less than n, nor 0;");
        fault("A{2,1}", 4);
        good("A{2,2}", 2);
        good("A{2,3}", 2);
        fault("A{99,98}", 5);
        good("A{98,99}", 2);
        fault("A{10,9}", 5);
        fault("A{0,0}", 4);
        fault("A{0,00}", 4);
        good("A{0,1}", 2);
        good("A{0,01}", 2);
        fault("A{1,0}", 4);
    }

    private static void moreOrLess() {
        Checks.says("behind these another ?, if it would have less (else it would have more).");
        String[] of = {"*", "+", "?", "{2}", "{2,}", "{2,3}"};
        for (String one : of) {
            RowPatterns x = new RowPatterns();
            Checks.pattern(x, "A" + one);
            due("more: " + one, x.part(1, 5), 1);
            Checks.pattern(x, "A" + one + "?");
            due("less: " + one, x.part(1, 5), 0);
            due("it is one REPETITION", x.told(1), 2);
            fault("A" + one + "??", one.length() + 2);
            fault("A" + one + "?*", one.length() + 2);
        }
    }

    private static void orderedTwoToFour() {
        Checks.says("%(P,P) with 2 to 4 P.");
        fault("%()", 2);
        fault("%(A)", 3);
        good("%(A,B)", 3);
        good("%(A,B,C)", 4);
        good("%(A,B,C,D)", 5);
        fault("%(A,B,C,D,E)", 9);
        good("%(A|B,CD)", 7);
        fault("%A,B", 1);
        fault("%((A,B))", 4);
    }

    private static void fiveBrackets() {
        Checks.says("A ( within 5 others is none.");
        good("(A)", 1);
        good("(((((A)))))", 1);
        fault("((((((A))))))", 5);
        good("(((((A)))))(((((B)))))", 3);
        good("(((((A))))(B))", 3);
        good("(((((A)))((B(C)))))", 5);
        fault("(((((A)))(((B(C)))))", 13);
        fault("A((((((", 6);
        good("%(((((A)))),((((B)))))", 3);
        fault("%((((((A))))),B)", 6);
    }

    private static void fourthComma() {
        Checks.says("The fourth , of % is the FAULT;");
        fault("%(A,B,C,D,E)", 9);
        fault("%(A,B,C,D,", 9);
        fault("%(A,B,C,D,,", 9);
        fault("%(A,B,C,(D),E", 11);
        fault("%(%(A,B),C,D,E,F)", 14);
        good("%(%(A,B,C,D),%(A,B,C,D),E,F)", 13);
    }

    private static void orderedCountsAsBracket() {
        Checks.says("% and its ( count as a ( among 5.");
        good("%(%(%(%(%(A,B),C),D),E),F)", 11);
        fault("%(%(%(%(%(%(A,B),C),D),E),F),G)", 10);
        good("((((%(A,B)))))", 3);
        fault("(((((%(A,B))))))", 5);
        good("%(%(%(%((A),B),C),D),E)", 9);
        fault("%(%(%(%(%((A),B),C),D),E),F)", 10);
        fault("(((((%", 5);
        fault("%(%(%(%(%(A,%(", 12);
    }

    private static void numbersOfParts() {
        Checks.says("PARTS of a PATTERN have numbers 0, 1, .. as they are whole, those within one ahead of it:");
        RowPatterns x = new RowPatterns();
        // 0 A, 1 ^, 2 $, 3 P, 4 REPETITION, 5 Q, 6 B, 7 C, 8 %, 9 P
        due("PARTS", Checks.pattern(x, "A(^|$)+|%(B,C)"), 10);
        int[] sorts = {0, 1, 2, 4, 5, 3, 0, 0, 6, 4};
        int[] within = {5, 3, 3, 4, 5, 9, 8, 8, 9, -5};
        for (int i = 0; i < sorts.length; i++) {
            due("sort of " + i, x.part(i, 0), sorts[i]);
            due("within which " + i, x.part(i, 6), within[i]);
        }
        due("none behind the last", x.part(10, 0), -1);
    }

    private static void twoOrMore() {
        Checks.says("LETTERS, ^ and $; Q's of two R or more; P's of two Q or more; R's with a REPETITION; %'s.");
        good("A", 1);
        good("^", 1);
        good("$", 1);
        good("AA", 3);
        good("A|A", 3);
        good("A|AA", 5);
        good("A*", 2);
        good("%(A,A)", 3);
        good("A{1}", 2);
        RowPatterns x = new RowPatterns();
        Checks.pattern(x, "AA");
        due("a Q", x.part(2, 0), 3);
        Checks.pattern(x, "A|A");
        due("a P", x.part(2, 0), 4);
    }

    private static void bracketsAreNoPart() {
        Checks.says("(What is in brackets alone is no PART of its own.)");
        good("(A)", 1);
        good("(((((A)))))", 1);
        good("(A)(B)", 3);
        good("(A)|(B)", 3);
        good("(AB)", 3);
        good("(A|B)", 3);
        good("(AB)C", 5);
        good("(A)*", 2);
        RowPatterns x = new RowPatterns();
        Checks.pattern(x, "(A)B");
        due("straight within the whole", x.part(0, 6), 2);
    }

    private static void mostParts() {
        Checks.says("how many PARTS it has;");
        // No text of 120 bytes has more PARTS than the last of these.
        good("A".repeat(120), 121);
        good("A*".repeat(60), 121);
        good("A|".repeat(59) + "A", 61);
        good("AA|".repeat(39) + "AAA", 122);
        RowPatterns x = Checks.rows(1);
        Checks.pattern(x, "A".repeat(120));
        due("the whole", x.part(120, 0), 3);
        due("how many are straight within it", x.part(120, 2), 120);
        due("the last LETTER", x.part(119, 6), 120);
        due("behind the whole", x.part(121, 0), -1);
        due("it needs more ROWS than there are", x.first(0), -5);
    }

    private static void partAnswers() {
        Checks.says("6 the number of what it is straight within (-5). NONE: part (no PATTERN, too), what.");
        RowPatterns x = new RowPatterns();
        due("no PATTERN", x.part(0, 0), -1);
        due("no PATTERN", x.part(-1, 6), -1);
        Checks.pattern(x, "AB*");
        for (int part = 0; part < 4; part++) {
            due("what 0", x.part(part, 0) >= 0 ? 1 : 0, 1);
            due("what -1", x.part(part, -1), -1);
            due("what 7", x.part(part, 7), -1);
            due("what 8", x.part(part, 8), -1);
        }
        due("what 6 of the last", x.part(3, 6), -5);
        due("what 6 of the first", x.part(0, 6), 3);
        due("part -1", x.part(-1, 0), -1);
        due("part 4", x.part(4, 0), -1);
        for (int none : ENDS) {
            due("part " + none, x.part(none, 0), -1);
            due("what " + none, x.part(0, none), -1);
            due("both " + none, x.part(none, none), -1);
        }
        due("a FAULT leaves the PATTERN", Checks.pattern(x, "A("), -102);
        due("its last part", x.part(3, 0), 3);
    }

    private static void facts(String text, int part, int... want) {
        RowPatterns x = new RowPatterns();
        Checks.pattern(x, text);
        for (int what = 0; what < want.length; what++) {
            due("part " + part + " of " + text + ", what " + what, x.part(part, what), want[what]);
        }
    }

    private static void partsFacts() {
        Checks.says("3 least, 4 most (-5: no REPETITION; 100: without a most), 5 1 it would have more (0 less; -5),");
        facts("A", 0, 0, 0, 0, -5, -5, -5, -5);
        facts("Z", 0, 0, 25, 0, -5, -5, -5, -5);
        facts("^", 0, 1, -5, 0, -5, -5, -5, -5);
        facts("$", 0, 2, -5, 0, -5, -5, -5, -5);
        facts("AB", 2, 3, -5, 2, -5, -5, -5, -5);
        facts("A|B|C", 3, 4, -5, 3, -5, -5, -5, -5);
        facts("A*", 1, 5, -5, 1, 0, 100, 1, -5);
        facts("A{99,99}?", 1, 5, -5, 1, 99, 99, 0, -5);
        facts("A{99,}?", 1, 5, -5, 1, 99, 100, 0, -5);
        facts("A{0,1}", 1, 5, -5, 1, 0, 1, 1, -5);
        facts("%(A,B)", 2, 6, -5, 2, -5, -5, -5, -5);
        facts("%(A,B,C,D)", 4, 6, -5, 4, -5, -5, -5, -5);
        facts("A*", 0, 0, 0, 0, -5, -5, -5, 1);
    }

    private static void spelledAs(String text, String want) {
        RowPatterns x = new RowPatterns();
        int parts = Checks.pattern(x, text);
        String spelled = Checks.spelled(x);
        Checks.due("spelled " + text, spelled, want);
        RowPatterns again = new RowPatterns();
        due("PARTS of what is SPELLED", Checks.pattern(again, spelled), parts);
        for (int part = 0; part < parts; part++) {
            for (int what = 0; what < 7; what++) {
                due("part " + part + " of " + spelled + ", what " + what, again.part(part, what), x.part(part, what));
            }
        }
    }

    private static void spelledBrackets() {
        Checks.says("with brackets only where, without them, it would not be read with the same PARTS and numbers;");
        spelledAs("(A)", "A");
        spelledAs("(((((A)))))", "A");
        spelledAs("(A)(B)", "AB");
        spelledAs("(A)|(B)", "A|B");
        spelledAs("(AB)|(CD)", "AB|CD");
        spelledAs("(A)*", "A*");
        spelledAs("(^)*($)+", "^*$+");
        spelledAs("(%(A,B)){2}", "%(A,B){2}");
        spelledAs("(A*)(B+)", "A*B+");
        spelledAs("(A*)|(B?)", "A*|B?");
        spelledAs("(%(A,B))(%(C,D))", "%(A,B)%(C,D)");
        spelledAs("%((A|B),(CD),(E)*,((F)*))", "%(A|B,CD,E*,F*)");
        spelledAs("%((%(A,B)),C)", "%(%(A,B),C)");
        spelledAs("(A|B|C)", "A|B|C");
        // Those that must stay.
        spelledAs("(AB)C", "(AB)C");
        spelledAs("A(BC)", "A(BC)");
        spelledAs("(AB)(CD)", "(AB)(CD)");
        spelledAs("(A|B)C", "(A|B)C");
        spelledAs("A|(B|C)", "A|(B|C)");
        spelledAs("(A|B)|C", "(A|B)|C");
        spelledAs("(AB)*", "(AB)*");
        spelledAs("(A|B)*", "(A|B)*");
        spelledAs("(A*)*", "(A*)*");
        spelledAs("(A*)?", "(A*)?");
        spelledAs("(A?)?", "(A?)?");
        spelledAs("(A*?)?", "(A*?)?");
        spelledAs("(A{2})?", "(A{2})?");
        spelledAs("(A?){3}", "(A?){3}");
        spelledAs("(((((AB)C)D)E)F)G", "(((((AB)C)D)E)F)G");
    }

    private static void spelledRepetitions() {
        Checks.says("{0,} as *, {1,} as +, {0,1} as ?, {n,n} as {n};");
        spelledAs("A{0,}", "A*");
        spelledAs("A{1,}", "A+");
        spelledAs("A{2,}", "A{2,}");
        spelledAs("A{0,1}", "A?");
        spelledAs("A{0,2}", "A{0,2}");
        spelledAs("A{1,1}", "A{1}");
        spelledAs("A{1,2}", "A{1,2}");
        spelledAs("A{1}", "A{1}");
        spelledAs("A{2,2}", "A{2}");
        spelledAs("A{99,99}", "A{99}");
        spelledAs("A{98,99}", "A{98,99}");
        spelledAs("A{99,}", "A{99,}");
        spelledAs("A{0,99}", "A{0,99}");
        spelledAs("A{0,}?", "A*?");
        spelledAs("A{1,}?", "A+?");
        spelledAs("A{0,1}?", "A??");
        spelledAs("A{1,1}?", "A{1}?");
        spelledAs("A{0,2}?", "A{0,2}?");
    }

    private static void spelledNumbers() {
        Checks.says("numbers as short as can be.");
        spelledAs("A{09}", "A{9}");
        spelledAs("A{09,}", "A{9,}");
        spelledAs("A{09,10}", "A{9,10}");
        spelledAs("A{00,02}", "A{0,2}");
        spelledAs("A{00,01}", "A?");
        spelledAs("A{00,}", "A*");
        spelledAs("A{01,}", "A+");
        spelledAs("A{01,01}", "A{1}");
        spelledAs("A{10,20}", "A{10,20}");
        spelledAs("A{19,90}", "A{19,90}");
    }

    private static void paperHoldsTheLatest() {
        Checks.says("THE PAPER holds the latest one (nothing at first).");
        RowPatterns x = new RowPatterns();
        due("nothing at first", x.paper(0), -1);
        Checks.pattern(x, "ABC");
        due("nothing by a PATTERN alone", x.paper(0), -1);
        due("spell", x.spell(), 3);
        Checks.due("the paper", Checks.paper(x), "ABC");
        Checks.pattern(x, "D");
        Checks.due("it stays", Checks.paper(x), "ABC");
        due("spell", x.spell(), 1);
        Checks.due("the latest, and nothing of the other", Checks.paper(x), "D");
    }

    private static void spellAnswers() {
        Checks.says("THE PAPER becomes the PATTERN SPELLED: how many bytes. STATE: no PATTERN.");
        RowPatterns x = new RowPatterns();
        due("no PATTERN", x.spell(), -3);
        due("nothing is on it", x.paper(0), -1);
        Checks.pattern(x, "$");
        due("the fewest bytes", x.spell(), 1);
        Checks.pattern(x, "A".repeat(120));
        due("the most bytes", x.spell(), 120);
        due("the last", x.paper(119), 'A');
        Checks.pattern(x, "A{22,33}?".repeat(13) + "ABC");
        due("the most bytes", x.spell(), 120);
        due("the last", x.paper(119), 'C');
    }

    private static void paperAnswers() {
        Checks.says("Byte i of THE PAPER. NONE.");
        RowPatterns x = new RowPatterns();
        due("of nothing", x.paper(0), -1);
        Checks.pattern(x, "A|B");
        x.spell();
        due("the first", x.paper(0), 'A');
        due("the last", x.paper(2), 'B');
        due("behind the last", x.paper(3), -1);
        due("below the first", x.paper(-1), -1);
        for (int none : ENDS) {
            due("byte " + none, x.paper(none), -1);
        }
        Checks.pattern(x, "A".repeat(119) + "Z");
        x.spell();
        due("the last of 120", x.paper(119), 'Z');
        due("behind it", x.paper(120), -1);
    }
}
