/**
 * All that calls can show of an object, told as a text: two objects told alike answer alike. What asks only comes first,
 * then THE IMAGE is shown by undo(), and THE TAPE by reading it.
 */
final class Shown {
    private static final int CALLS = 512;
    private final RowPatterns x;
    private final StringBuilder out = new StringBuilder();
    private int calls;

    private Shown(RowPatterns x) {
        this.x = x;
    }

    /** The object is used up by that; so many calls it had already. */
    static String of(RowPatterns x, int before) {
        Shown shown = new Shown(x);
        shown.all();
        shown.say("undo", x.undo());
        shown.situation();
        shown.say("pattern", x.pattern());
        shown.parts();
        Checks.truth("no more calls than an object is used for", shown.calls + before <= CALLS);
        return shown.out.toString();
    }

    private long say(String call, long answer) {
        calls++;
        out.append(call).append(' ').append(answer).append('\n');
        return answer;
    }

    private void all() {
        situation();
        parts();
        for (int i = 0; say("paper " + i, x.paper(i)) >= 0; i++) {
            continue;
        }
        lists();
        searches();
    }

    /** What THE IMAGE keeps, as far as it is told without a search. */
    private void situation() {
        for (int what = 0; what < 10; what++) {
            say("told " + what, x.told(what));
        }
        for (int row = 0; row < 3; row++) {
            say("cell " + row + " 0", x.cell(row, 0));
            say("cell " + row + " 1", x.cell(row, 1));
            for (int letter = 1; letter < 4; letter++) {
                say("holds " + letter + " " + row, x.holds(letter, row));
            }
        }
        say("the last row", x.cell(31, 0));
        for (int match = 0; say("match " + match, x.match(match, 0)) >= 0; match++) {
            say("rows of " + match, x.match(match, 1));
            for (int row = 0; row < 3; row++) {
                say("label " + match + " " + row, x.label(match, row));
            }
            say("sum of " + match, x.measure(match, 26, 0, 1));
        }
    }

    private void parts() {
        for (int part = 0; say("part " + part, x.part(part, 0)) >= 0; part++) {
            say("letter of " + part, x.part(part, 1));
            say("most of " + part, x.part(part, 4));
            say("within " + part, x.part(part, 6));
        }
    }

    private void lists() {
        for (int list = 0; list < 4; list++) {
            for (int i = 0; i < 4; i++) {
                say("get " + list + " " + i, x.get(list, i));
            }
            for (int n : new int[] {0, 1, 3, 4, 40}) {
                // It moves them to where they are, and so tells how many there are.
                say("move " + list + " " + n, x.move(list, 0, list, 0, n));
            }
        }
    }

    private void searches() {
        for (int start = 0; start < 4; start++) {
            say("tries " + start, x.tries(start));
            say("first " + start, x.first(start));
            say("ways " + start, x.ways(start));
        }
    }
}
