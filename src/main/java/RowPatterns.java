import java.util.Arrays;

/** A matcher of patterns over a table's rows. */
public final class RowPatterns {
    public static final int NONE = -1, BAD = -2, STATE = -3, FULL = -4, MUCH = -7;
    public static final long NO = Long.MIN_VALUE;

    private static final int NOT_SO = -5, NOTHING = -11, BEYOND = -13, BELOW = -14;
    private static final int FAULTY = -100, ENDED_EARLY = 100;
    private static final int ROWS = 32, COLUMNS = 2, LETTERS = 26, BYTES = 120, LISTS = 4, PLACES = 40;
    private static final int WIDEST = 999, MISSING = 1000, MOST_TRIES = 5000;
    private static final int PAST = 0, NEXT = 1, FIRST = 2, MODES = 4, MEASURES = 7;

    private final Situation now = new Situation();
    private final Search search = new Search(now);
    private final Text tape = new Text();
    private final Text sheet = new Text();
    private final Longs[] lists = new Longs[LISTS];
    private Matches spare = new Matches();
    private Situation kept;

    public RowPatterns() {
        for (int i = 0; i < lists.length; i++) {
            lists[i] = new Longs();
        }
    }

    public int row(int x, int y) {
        if (!isCell(x) || !isCell(y)) {
            return BAD;
        }
        if (now.table.size >= ROWS) {
            return FULL;
        }
        int number = now.table.size;
        now.table.size++;
        now.table.write(number, x, y);
        now.matches.size = 0;
        return number;
    }

    public int set(int row, int x, int y) {
        if (!now.table.hasRow(row)) {
            return NONE;
        }
        if (!isCell(x) || !isCell(y)) {
            return BAD;
        }
        now.table.write(row, x, y);
        now.matches.size = 0;
        return now.table.size;
    }

    public int drop() {
        if (now.table.size <= 0) {
            return STATE;
        }
        now.table.size--;
        now.matches.size = 0;
        return now.table.size;
    }

    public int cell(int row, int column) {
        return now.table.hasRow(row) && isColumn(column) ? now.table.number(row, column) : NONE;
    }

    public int feed(int letter) {
        if (letter < 1 || letter > 127) {
            return BAD;
        }
        return tape.add(letter) ? tape.size : FULL;
    }

    public int clear() {
        return tape.empty();
    }

    public int pattern() {
        PatternReader reader = new PatternReader(tape);
        Parts parts = reader.read();
        tape.empty();
        if (parts == null) {
            return FAULTY - reader.fault;
        }
        now.parts = parts;
        now.matches.size = 0;
        return parts.count;
    }

    public int define() {
        ConditionReader reader = new ConditionReader(tape);
        int count = reader.read();
        tape.empty();
        if (count < 0) {
            return FAULTY - reader.fault;
        }
        for (int letter = 0; letter < LETTERS; letter++) {
            if ((reader.named >> letter & 1) == 1) {
                now.conditions[letter] = reader.conditions[letter];
            }
        }
        now.matches.size = 0;
        return count;
    }

    public int part(int part, int what) {
        Parts parts = now.parts;
        if (parts == null || part < 0 || part >= parts.count || what < Parts.SORT || what > Parts.WITHIN) {
            return NONE;
        }
        return parts.fact(part, what);
    }

    public int spell() {
        if (now.parts == null) {
            return STATE;
        }
        sheet.empty();
        now.parts.write(sheet);
        return sheet.size;
    }

    public int paper(int i) {
        return sheet.at(i);
    }

    public int mode(int mode, int letter) {
        if (mode < 0 || mode >= MODES || !isLetter(letter)) {
            return NONE;
        }
        int was = 10 * now.modeLetter + now.mode;
        now.mode = mode;
        now.modeLetter = letter;
        return was;
    }

    public int empties(int on) {
        if (on != 0 && on != 1) {
            return NONE;
        }
        int was = now.empties;
        now.empties = on;
        return was;
    }

    public int may(int n) {
        if (n < 1 || n > MOST_TRIES) {
            return BAD;
        }
        int was = now.may;
        now.may = n;
        return was;
    }

    public int holds(int letter, int row) {
        if (!isLetter(letter) || !now.table.hasRow(row)) {
            return NONE;
        }
        return search.allows(letter, row) ? 1 : 0;
    }

    public int first(int start) {
        int found = search.seek(start, Search.ANY_END);
        return found == 1 ? search.place - start : found == 0 ? NOT_SO : found;
    }

    public int tries(int start) {
        int found = search.seek(start, Search.ANY_END);
        return found < 0 ? found : search.tries;
    }

    public int way(int start, int i) {
        int found = search.seek(start, Search.ANY_END);
        if (found < 0) {
            return found;
        }
        return found == 0 || i < 0 || i >= search.place - start ? NOT_SO : search.letterAt(start + i);
    }

    public int ways(int start) {
        int found = search.seek(start, Search.NO_END);
        return found < 0 ? found : search.ways;
    }

    public int spans(int start, int what) {
        if (what != 0 && what != 1) {
            return NONE;
        }
        int found = search.seek(start, Search.NO_END);
        if (found < 0) {
            return found;
        }
        if (search.ways == 0) {
            return NOT_SO;
        }
        return what == 0 ? search.fewest : search.most;
    }

    public int fits(int start, int end) {
        return end < start || end > now.table.size ? NONE : search.seek(start, end);
    }

    public int run() {
        Matches fresh = spare;
        fresh.size = 0;
        int next = 0;
        for (int start = 0; start <= now.table.size; start++) {
            if (start < next) {
                continue;
            }
            int found = search.seek(start, Search.ANY_END);
            if (found < 0) {
                return found;
            }
            next = start + 1;
            if (found == 1 && (search.place > start || now.empties == 1)) {
                fresh.add(start, search.place, search);
                next = startBehind(start);
            }
        }
        spare = now.matches;
        now.matches = fresh;
        return fresh.size;
    }

    public int match(int match, int what) {
        if (!now.matches.has(match)) {
            return NONE;
        }
        switch (what) {
            case 0: return now.matches.startOf(match);
            case 1: return now.matches.rowsOf(match);
            case 2: return Integer.bitCount(now.matches.lettersOf(match));
            case 3: return now.matches.lettersOf(match);
            default: return NONE;
        }
    }

    public int label(int match, int row) {
        return now.matches.has(match) && now.table.hasRow(row) ? now.matches.letterOf(match, row) : NONE;
    }

    public long measure(int match, int letter, int column, int measure) {
        if (!now.matches.has(match) || !isMeasure(letter, column, measure)) {
            return NO;
        }
        return now.matches.measured(match, letter, column, measure, now.table);
    }

    public int covered(int row) {
        return now.table.hasRow(row) ? now.matches.covering(row) : NONE;
    }

    public int told(int what) {
        switch (what) {
            case 0: return now.table.size;
            case 1: return now.parts == null ? 0 : now.parts.count;
            case 2: return now.matches.size;
            case 3: return now.mode;
            case 4: return now.modeLetter;
            case 5: return now.empties;
            case 6: return now.may;
            case 7: return now.lettersWithCondition();
            case 8: return rowsInNoMatch();
            case 9: return tape.size;
            default: return NONE;
        }
    }

    public int list(int list, int n) {
        Longs longs = listAt(list);
        if (longs == null) {
            return NONE;
        }
        if (n > PLACES) {
            return BAD;
        }
        if (n < 0) {
            return BELOW;
        }
        longs.become(n);
        return 1;
    }

    public int put(int list, int i, long v) {
        Longs longs = listAt(list);
        if (longs == null) {
            return NONE;
        }
        if (longs.size < 0) {
            return NOTHING;
        }
        return longs.write(i, v) ? 1 : BEYOND;
    }

    public long get(int list, int i) {
        Longs longs = listAt(list);
        return longs == null ? NO : longs.at(i);
    }

    public int move(int list, int i, int other, int j, int n) {
        Longs from = listAt(list);
        Longs to = listAt(other);
        if (from == null || to == null) {
            return NONE;
        }
        if (from.size < 0 || to.size < 0) {
            return NOTHING;
        }
        if (!from.hasAll(i, n) || !to.hasAll(j, n)) {
            return BEYOND;
        }
        System.arraycopy(from.values, i, to.values, j, n);
        return n;
    }

    public int lay(int list, int i, int letter, int column, int measure) {
        Longs longs = listAt(list);
        if (longs == null || !isMeasure(letter, column, measure)) {
            return NONE;
        }
        if (longs.size < 0) {
            return NOTHING;
        }
        int laid = 0;
        for (int match = 0; match < now.matches.size; match++) {
            if (!longs.write((long) i + match, now.matches.measured(match, letter, column, measure, now.table))) {
                return BEYOND;
            }
            laid++;
        }
        return laid;
    }

    public int judge(int list, int i, int letter, int column, int measure) {
        Longs longs = listAt(list);
        if (longs == null || !isMeasure(letter, column, measure)) {
            return NONE;
        }
        if (longs.size < 0) {
            return NOTHING;
        }
        for (int match = 0; match < now.matches.size; match++) {
            if (!longs.has((long) i + match)) {
                return ENDED_EARLY + match;
            }
            if (longs.at((long) i + match) != now.matches.measured(match, letter, column, measure, now.table)) {
                return match;
            }
        }
        return NOT_SO;
    }

    public int image() {
        if (kept == null) {
            kept = new Situation();
        }
        kept.become(now);
        return now.table.size;
    }

    public int undo() {
        if (kept == null) {
            return STATE;
        }
        now.become(kept);
        return now.table.size;
    }

    /** The next START behind the match that the search has just found. */
    private int startBehind(int start) {
        int next = start;
        if (now.mode == PAST) {
            next = search.place;
        } else if (now.mode != NEXT) {
            for (int row = start; row < search.place; row++) {
                if (search.letterAt(row) == now.modeLetter) {
                    next = row;
                    if (now.mode == FIRST) {
                        break;
                    }
                }
            }
        }
        return next > start ? next : start + 1;
    }

    private int rowsInNoMatch() {
        int rows = 0;
        for (int row = 0; row < now.table.size; row++) {
            if (now.matches.covering(row) == 0) {
                rows++;
            }
        }
        return rows;
    }

    private Longs listAt(int list) {
        return list < 0 || list >= lists.length ? null : lists[list];
    }

    private static boolean isCell(int number) {
        return number >= -WIDEST && number <= MISSING;
    }

    private static boolean isColumn(int column) {
        return column >= 0 && column < COLUMNS;
    }

    private static boolean isLetter(int letter) {
        return letter >= 0 && letter < LETTERS;
    }

    private static boolean isMeasure(int letter, int column, int measure) {
        return letter >= 0 && letter <= LETTERS && isColumn(column) && measure >= 0 && measure < MEASURES;
    }

    /** All that THE IMAGE keeps. */
    private static final class Situation {
        final Table table = new Table();
        final Condition[] conditions = new Condition[LETTERS];
        Parts parts;
        Matches matches = new Matches();
        int mode = PAST;
        int modeLetter;
        int empties = 1;
        int may = MOST_TRIES;

        // Parts and Conditions never change once they are read, so they are shared, not copied.
        void become(Situation other) {
            table.become(other.table);
            for (int letter = 0; letter < LETTERS; letter++) {
                conditions[letter] = other.conditions[letter];
            }
            parts = other.parts;
            matches.become(other.matches);
            mode = other.mode;
            modeLetter = other.modeLetter;
            empties = other.empties;
            may = other.may;
        }

        int lettersWithCondition() {
            int bits = 0;
            for (int letter = 0; letter < LETTERS; letter++) {
                if (conditions[letter] != null) {
                    bits |= 1 << letter;
                }
            }
            return bits;
        }
    }

    /** The rows, each with its X and Y. */
    private static final class Table {
        private final int[] cells = new int[ROWS * COLUMNS];
        int size;

        boolean hasRow(int row) {
            return row >= 0 && row < size && row < ROWS;
        }

        /** What stands there; MISSING also if there is no such row. */
        int number(int row, int column) {
            boolean there = row >= 0 && row < size && row < ROWS && column >= 0 && column < COLUMNS;
            return there ? cells[row * COLUMNS + column] : MISSING;
        }

        void write(int row, int x, int y) {
            if (hasRow(row)) {
                cells[row * COLUMNS] = x;
                cells[row * COLUMNS + 1] = y;
            }
        }

        void become(Table other) {
            System.arraycopy(other.cells, 0, cells, 0, ROWS * COLUMNS);
            size = other.size;
        }
    }

    /** A row of bytes: THE TAPE, THE PAPER. */
    private static final class Text {
        private final int[] bytes = new int[BYTES];
        int size;

        boolean add(int sign) {
            if (size < 0 || size >= BYTES) {
                return false;
            }
            bytes[size] = sign;
            size++;
            return true;
        }

        int at(int i) {
            return i < 0 || i >= size || i >= BYTES ? NONE : bytes[i];
        }

        int empty() {
            int had = size;
            size = 0;
            return had;
        }
    }

    /** One of the LISTS; its size is below 0 while it holds nothing. */
    private static final class Longs {
        final long[] values = new long[PLACES];
        int size = -1;

        void become(int n) {
            Arrays.fill(values, 0L);
            size = n;
        }

        boolean has(long i) {
            return i >= 0 && i < size && i < PLACES;
        }

        boolean hasAll(int i, int n) {
            return n >= 0 && i >= 0 && n <= size && i <= size - n;
        }

        long at(long i) {
            return has(i) ? values[(int) i] : NO;
        }

        boolean write(long i, long value) {
            if (!has(i)) {
                return false;
            }
            values[(int) i] = value;
            return true;
        }
    }

    /** The parts of a pattern, numbered as they are whole: the whole pattern is the last one. */
    private static final class Parts {
        static final int LETTER = 0, FRONT = 1, END = 2, SEQUENCE = 3, CHOICE = 4, REPETITION = 5, ANY_ORDER = 6;
        static final int SORT = 0, SIGN = 1, INNER = 2, LEAST = 3, MOST = 4, MORE = 5, WITHIN = 6;
        static final int ELDEST = 7, YOUNGER = 8, FACTS = 9;
        static final int WITHOUT_MOST = 100, DEEPEST = 40;

        private final int[] facts;
        int count;

        Parts(int room) {
            facts = new int[room < 0 ? 0 : room * FACTS];
        }

        int fact(int part, int what) {
            if (part < 0 || part >= count || what < 0 || what >= FACTS) {
                return NOT_SO;
            }
            int i = part * FACTS + what;
            return i < facts.length ? facts[i] : NOT_SO;
        }

        private void note(int part, int what, int value) {
            int i = part * FACTS + what;
            if (part >= 0 && i >= 0 && i < facts.length) {
                facts[i] = value;
            }
        }

        /** A new part around those that are linked from the eldest on. */
        int add(int sort, int eldest, int inner) {
            int number = count;
            if (facts.length / FACTS <= number) {
                return NONE;
            }
            count++;
            for (int what = 0; what < FACTS; what++) {
                note(number, what, NOT_SO);
            }
            note(number, SORT, sort);
            note(number, INNER, inner);
            note(number, ELDEST, eldest);
            int child = eldest;
            for (int i = 0; i < inner; i++) {
                note(child, WITHIN, number);
                child = fact(child, YOUNGER);
            }
            return number;
        }

        int addLeaf(int sort, int letter) {
            int number = add(sort, NOT_SO, 0);
            note(number, SIGN, letter);
            return number;
        }

        int addRepetition(int child, int least, int most, int more) {
            int number = add(REPETITION, child, 1);
            note(number, LEAST, least);
            note(number, MOST, most);
            note(number, MORE, more);
            return number;
        }

        void link(int elder, int younger) {
            note(elder, YOUNGER, younger);
        }

        /** Writes the whole pattern as short as it can be read again. */
        void write(Text paper) {
            writePart(count - 1, paper, 0);
        }

        private void writePart(int part, Text paper, int depth) {
            if (depth > DEEPEST) {
                return;
            }
            switch (fact(part, SORT)) {
                case LETTER:
                    paper.add('A' + fact(part, SIGN));
                    break;
                case FRONT:
                    paper.add('^');
                    break;
                case END:
                    paper.add('$');
                    break;
                case ANY_ORDER:
                    paper.add('%');
                    paper.add('(');
                    writeInner(part, ',', paper, depth);
                    paper.add(')');
                    break;
                case REPETITION:
                    writeInner(part, NONE, paper, depth);
                    writeQuantity(part, paper);
                    break;
                case CHOICE:
                    writeInner(part, '|', paper, depth);
                    break;
                default:
                    writeInner(part, NONE, paper, depth);
                    break;
            }
        }

        private void writeInner(int part, int parting, Text paper, int depth) {
            int child = fact(part, ELDEST);
            int inner = fact(part, INNER);
            for (int i = 0; i < inner; i++) {
                if (i > 0 && parting != NONE) {
                    paper.add(parting);
                }
                boolean bracketed = needsBrackets(fact(part, SORT), fact(child, SORT));
                if (bracketed) {
                    paper.add('(');
                }
                writePart(child, paper, depth + 1);
                if (bracketed) {
                    paper.add(')');
                }
                child = fact(child, YOUNGER);
            }
        }

        private static boolean needsBrackets(int outer, int inner) {
            switch (outer) {
                case SEQUENCE: return inner == SEQUENCE || inner == CHOICE;
                case CHOICE: return inner == CHOICE;
                case REPETITION: return inner == SEQUENCE || inner == CHOICE || inner == REPETITION;
                default: return false;
            }
        }

        private void writeQuantity(int part, Text paper) {
            int least = fact(part, LEAST);
            int most = fact(part, MOST);
            if (most == WITHOUT_MOST && least < 2) {
                paper.add(least == 0 ? '*' : '+');
            } else if (least == 0 && most == 1) {
                paper.add('?');
            } else {
                paper.add('{');
                writeNumber(least, paper);
                if (most != least) {
                    paper.add(',');
                }
                if (most != least && most != WITHOUT_MOST) {
                    writeNumber(most, paper);
                }
                paper.add('}');
            }
            if (fact(part, MORE) == 0) {
                paper.add('?');
            }
        }

        private static void writeNumber(int number, Text paper) {
            if (number > 9) {
                paper.add('0' + number / 10);
            }
            paper.add('0' + number % 10);
        }
    }

    /** Reads a text as a pattern; the methods answer the number of a part, NONE behind a fault. */
    private static final class PatternReader {
        private static final int MOST_BRACKETS = 5, MOST_ORDERED = 4, MOST_FIGURES = 2;

        private final Text text;
        private final Parts parts;
        private int place;
        int fault = NONE;

        PatternReader(Text text) {
            this.text = text;
            // A byte ends two parts at most: itself, and a sequence or a choice with it.
            parts = new Parts(2 * text.size);
        }

        /** The parts; null if the text has a fault. */
        Parts read() {
            int whole = choice(0);
            if (whole >= 0 && place < text.size) {
                failed(place);
            }
            return fault == NONE && whole >= 0 ? parts : null;
        }

        private int failed(int at) {
            if (fault == NONE) {
                fault = at;
            }
            return NONE;
        }

        private boolean comes(int sign) {
            return text.at(place) == sign;
        }

        private int choice(int depth) {
            int eldest = sequence(depth);
            int latest = eldest;
            int inner = 1;
            for (; inner <= BYTES && latest >= 0 && comes('|'); inner++) {
                place++;
                int younger = sequence(depth);
                parts.link(latest, younger);
                latest = younger;
            }
            return latest < 0 || inner == 1 ? latest : parts.add(Parts.CHOICE, eldest, inner);
        }

        private int sequence(int depth) {
            int eldest = piece(depth);
            int latest = eldest;
            int inner = 1;
            for (; inner <= BYTES && latest >= 0 && atomComes(depth); inner++) {
                int younger = piece(depth);
                parts.link(latest, younger);
                latest = younger;
            }
            return latest < 0 || inner == 1 ? latest : parts.add(Parts.SEQUENCE, eldest, inner);
        }

        private boolean atomComes(int depth) {
            int sign = text.at(place);
            return isLetter(sign - 'A') || sign == '^' || sign == '$'
                || depth < MOST_BRACKETS && (sign == '(' || sign == '%');
        }

        private int piece(int depth) {
            int atom = atom(depth);
            if (atom < 0) {
                return NONE;
            }
            switch (text.at(place)) {
                case '*':
                    place++;
                    return repeated(atom, 0, Parts.WITHOUT_MOST);
                case '+':
                    place++;
                    return repeated(atom, 1, Parts.WITHOUT_MOST);
                case '?':
                    place++;
                    return repeated(atom, 0, 1);
                case '{':
                    place++;
                    return bounded(atom);
                default:
                    return atom;
            }
        }

        private int atom(int depth) {
            if (!atomComes(depth)) {
                return failed(place);
            }
            int sign = text.at(place);
            place++;
            switch (sign) {
                case '^': return parts.addLeaf(Parts.FRONT, NOT_SO);
                case '$': return parts.addLeaf(Parts.END, NOT_SO);
                case '(': return bracketed(depth + 1);
                case '%': return anyOrder(depth + 1);
                default: return parts.addLeaf(Parts.LETTER, sign - 'A');
            }
        }

        private int bracketed(int depth) {
            int inside = choice(depth);
            if (inside < 0 || !comes(')')) {
                return failed(place);
            }
            place++;
            return inside;
        }

        private int anyOrder(int depth) {
            if (!comes('(')) {
                return failed(place);
            }
            place++;
            int eldest = choice(depth);
            int latest = eldest;
            int inner = 1;
            for (; inner < MOST_ORDERED && latest >= 0 && comes(','); inner++) {
                place++;
                int younger = choice(depth);
                parts.link(latest, younger);
                latest = younger;
            }
            if (latest < 0 || inner < 2 || !comes(')')) {
                return failed(place);
            }
            place++;
            return parts.add(Parts.ANY_ORDER, eldest, inner);
        }

        private int bounded(int atom) {
            int least = number();
            if (least < 0) {
                return NONE;
            }
            int most = least;
            if (comes(',')) {
                place++;
                most = mostBehind(least);
            } else if (least == 0) {
                return failed(place);
            }
            if (most < 0 || !comes('}')) {
                return failed(place);
            }
            place++;
            return repeated(atom, least, most);
        }

        private int mostBehind(int least) {
            if (comes('}')) {
                return Parts.WITHOUT_MOST;
            }
            int begin = place;
            int most = number();
            return most >= 0 && (most == 0 || most < least) ? failed(begin) : most;
        }

        private int number() {
            int begin = place;
            int number = 0;
            for (int i = 0; i < MOST_FIGURES; i++) {
                int figure = text.at(place) - '0';
                if (figure < 0 || figure > 9) {
                    break;
                }
                number = number * 10 + figure;
                place++;
            }
            return place == begin ? failed(place) : number;
        }

        private int repeated(int atom, int least, int most) {
            int more = 1;
            if (comes('?')) {
                place++;
                more = 0;
            }
            return parts.addRepetition(atom, least, most, more);
        }
    }

    /** A condition as a row of signs: each test ahead of its two operands, and !, & and | behind what they join. */
    private static final class Condition {
        static final int NUMBER = '0', HERE = 'x', AHEAD = 'p', BEHIND = 'n', EARLIEST = 'f', LATEST = 'l';
        static final int SUM = 's', COUNT = 'c';
        static final int SHIFT = 12, ZERO = 1000;
        private static final int ABSENT = Integer.MIN_VALUE;

        private final int[] code;

        Condition(int[] code) {
            this.code = code;
        }

        /** The kind, and a number (with ZERO added) or twice a letter with a column. */
        static int operand(int kind, int detail) {
            return kind << SHIFT | detail;
        }

        boolean isTrue(Search track, int row) {
            // The bits are a pile of truths, the latest lowest; four brackets never pile up more than it holds.
            long truths = 0;
            for (int i = 0; i < code.length; i++) {
                int sign = code[i];
                if (sign == '!') {
                    truths ^= 1;
                } else if (sign == '&') {
                    truths = truths >> 1 & (truths | ~1L);
                } else if (sign == '|') {
                    truths = truths >> 1 | truths & 1;
                } else if (i + 2 < code.length) {
                    int left = value(code[i + 1], track, row);
                    int right = value(code[i + 2], track, row);
                    truths = truths << 1 | (compared(left, sign, right) ? 1 : 0);
                    i += 2;
                }
            }
            return (truths & 1) == 1;
        }

        private static boolean compared(int left, int sign, int right) {
            if (left == ABSENT || right == ABSENT) {
                return false;
            }
            return sign == '<' ? left < right : sign == '=' ? left == right : left > right;
        }

        private static int value(int operand, Search track, int row) {
            int kind = operand >> SHIFT;
            int detail = operand & (1 << SHIFT) - 1;
            Table table = track.now.table;
            int number;
            switch (kind) {
                case NUMBER: return detail - ZERO;
                case HERE: number = table.number(row, detail); break;
                case AHEAD: number = table.number(row - 1, detail); break;
                case BEHIND: number = table.number(row + 1, detail); break;
                case EARLIEST: number = table.number(track.earliest(detail / 2, row), detail % 2); break;
                case LATEST: number = table.number(track.latest(detail / 2, row), detail % 2); break;
                case SUM: return track.sum(detail / 2, detail % 2, row);
                default: return track.count(detail / 2, row);
            }
            return number == MISSING ? ABSENT : number;
        }
    }

    /** Reads a text as conditions; the methods answer whether there was no fault. */
    private static final class ConditionReader {
        private static final int MOST_NESTED = 4, MOST_FIGURES = 3;

        private final Text text;
        private final int[] code;
        private int size;
        private int place;
        int fault = NONE;
        int named;
        final Condition[] conditions = new Condition[LETTERS];

        ConditionReader(Text text) {
            this.text = text;
            // No byte makes more than one sign.
            code = new int[text.size < 0 ? 0 : text.size];
        }

        /** How many parts; NONE if the text has a fault. */
        int read() {
            for (int count = 1; count <= BYTES; count++) {
                int letter = text.at(place) - 'A';
                if (!isLetter(letter)) {
                    failed();
                    return NONE;
                }
                place++;
                if (!passes('=') || !conditionOf(letter)) {
                    return NONE;
                }
                if (place >= text.size) {
                    return count;
                }
                if (!passes(';')) {
                    return NONE;
                }
            }
            return NONE;
        }

        private boolean conditionOf(int letter) {
            size = 0;
            boolean some = place < text.size && !comes(';');
            if (some && !either(0)) {
                return false;
            }
            named |= 1 << letter;
            conditions[letter] = some ? new Condition(Arrays.copyOf(code, size)) : null;
            return true;
        }

        private boolean failed() {
            if (fault == NONE) {
                fault = place;
            }
            return false;
        }

        private boolean comes(int sign) {
            return text.at(place) == sign;
        }

        private boolean passes(int sign) {
            if (!comes(sign)) {
                return failed();
            }
            place++;
            return true;
        }

        private void emit(int sign) {
            if (size >= 0 && size < code.length) {
                code[size] = sign;
                size++;
            }
        }

        private boolean either(int depth) {
            boolean good = both(depth);
            for (int i = 0; i < BYTES && good && comes('|'); i++) {
                place++;
                good = both(depth);
                emit('|');
            }
            return good;
        }

        private boolean both(int depth) {
            boolean good = factor(depth);
            for (int i = 0; i < BYTES && good && comes('&'); i++) {
                place++;
                good = factor(depth);
                emit('&');
            }
            return good;
        }

        private boolean factor(int depth) {
            if (!comes('!') && !comes('(')) {
                return test();
            }
            if (depth >= MOST_NESTED) {
                return failed();
            }
            boolean negated = comes('!');
            place++;
            if (!negated) {
                return either(depth + 1) && passes(')');
            }
            boolean good = factor(depth + 1);
            emit('!');
            return good;
        }

        private boolean test() {
            // The comparison's sign goes ahead of its operands, but stands between them in the text.
            int at = size;
            emit(NONE);
            if (!operand()) {
                return false;
            }
            int sign = text.at(place);
            if (sign != '<' && sign != '=' && sign != '>') {
                return failed();
            }
            place++;
            if (at >= 0 && at < code.length) {
                code[at] = sign;
            }
            return operand();
        }

        private boolean operand() {
            int sign = text.at(place);
            boolean plain = sign == 'x' || sign == 'y';
            boolean beside = sign == Condition.AHEAD || sign == Condition.BEHIND;
            boolean lettered = sign == Condition.EARLIEST || sign == Condition.LATEST
                || sign == Condition.SUM || sign == Condition.COUNT;
            if (plain) {
                return column(Condition.HERE, 0);
            }
            if (!beside && !lettered) {
                return number();
            }
            place++;
            if (beside) {
                return column(sign, 0);
            }
            int letter = text.at(place) - 'A';
            if (!isLetter(letter)) {
                return failed();
            }
            place++;
            if (sign == Condition.COUNT) {
                emit(Condition.operand(sign, 2 * letter));
                return true;
            }
            return column(sign, letter);
        }

        private boolean column(int kind, int letter) {
            int sign = text.at(place);
            if (sign != 'x' && sign != 'y') {
                return failed();
            }
            place++;
            emit(Condition.operand(kind, 2 * letter + (sign == 'y' ? 1 : 0)));
            return true;
        }

        private boolean number() {
            int factor = 1;
            if (text.at(place) == '-') {
                factor = -1;
                place++;
            }
            int begin = place;
            int number = 0;
            for (int i = 0; i < MOST_FIGURES; i++) {
                int figure = text.at(place) - '0';
                if (figure < 0 || figure > 9) {
                    break;
                }
                number = number * 10 + figure;
                place++;
            }
            if (place == begin) {
                return failed();
            }
            emit(Condition.operand(Condition.NUMBER, factor * number + Condition.ZERO));
            return true;
        }
    }

    /** The search for ways, and the letters of the rows from its start on. */
    private static final class Search {
        /** Ends beside those that are rows: of the first way, whatever it is; of none. */
        static final int ANY_END = -1, NO_END = -2;
        private static final int COME = 0, DONE = 1, BACK = 2, OVER = 3;
        /** Far above the steps that the most tries can need. */
        private static final int MOST_STEPS = 1000000;
        /** A frame tells how it goes on behind a part: within which, behind it which frame, what is done, where it began. */
        private static final int PART = 0, UP = 1, STAGE = 2, BEGAN = 3, FRAME = 4;
        /** A choice that is left: of which part, its frame, what is left, the place, how many frames. */
        private static final int LEFT = 2, PLACE = 3, FRAMES = 4, OPTION = 5;
        private static final int EIGHT = 8;

        final Situation now;
        private final int[] letters = new int[ROWS];
        private int[] frames = new int[64 * FRAME];
        private int frameCount;
        private int[] options = new int[64 * OPTION];
        private int optionCount;
        private int start;
        private int part;
        private int up;
        int place;
        int tries;
        int ways;
        int fewest;
        int most;

        Search(Situation now) {
            this.now = now;
        }

        int letterAt(int row) {
            return row < 0 || row >= ROWS ? NOT_SO : letters[row];
        }

        /** 1: a way with that end was found, 0: none was; NONE, STATE or MUCH. */
        int seek(int from, int end) {
            Parts parts = now.parts;
            if (from < 0 || from > now.table.size) {
                return NONE;
            }
            if (parts == null) {
                return STATE;
            }
            begin(from, parts.count - 1);
            int next = COME;
            for (int step = 0; step < MOST_STEPS; step++) {
                if (next == COME) {
                    next = come(parts);
                } else if (next == DONE && up >= 0) {
                    next = goOn(parts);
                } else if (next == DONE) {
                    noteWay();
                    if (end == ANY_END || end == place) {
                        return 1;
                    }
                    next = BACK;
                } else if (next == OVER) {
                    return MUCH;
                } else if (optionCount > 0) {
                    next = goBack(parts);
                } else {
                    return 0;
                }
            }
            return MUCH;
        }

        private void begin(int from, int whole) {
            start = from;
            place = from;
            part = whole;
            up = NONE;
            frameCount = 0;
            optionCount = 0;
            tries = 0;
            ways = 0;
            fewest = 0;
            most = 0;
        }

        private void noteWay() {
            int rows = place - start;
            fewest = ways == 0 ? rows : Math.min(fewest, rows);
            most = Math.max(most, rows);
            ways++;
        }

        private boolean mayTry() {
            tries++;
            return tries <= now.may;
        }

        /** Comes to the part. */
        private int come(Parts parts) {
            int sort = parts.fact(part, Parts.SORT);
            if (sort == Parts.SEQUENCE) {
                return comeWithin(parts, parts.fact(part, Parts.ELDEST));
            }
            if (!mayTry()) {
                return OVER;
            }
            switch (sort) {
                case Parts.LETTER: return takeLetter(parts.fact(part, Parts.SIGN));
                case Parts.FRONT: return place == 0 ? DONE : BACK;
                case Parts.END: return place == now.table.size ? DONE : BACK;
                case Parts.CHOICE: return choose(parts, parts.fact(part, Parts.ELDEST));
                case Parts.REPETITION: return repeat(parts, 0, NONE);
                default: return order(parts, 0, 0);
            }
        }

        /** Goes on behind what is done, as its frame tells. */
        private int goOn(Parts parts) {
            int frame = up;
            int stage = frameFact(frame, STAGE);
            part = frameFact(frame, PART);
            up = frameFact(frame, UP);
            int sort = parts.fact(part, Parts.SORT);
            if (sort == Parts.SEQUENCE) {
                return comeWithin(parts, parts.fact(stage, Parts.YOUNGER));
            }
            if (!mayTry()) {
                return OVER;
            }
            return sort == Parts.REPETITION ? repeat(parts, stage, frameFact(frame, BEGAN)) : order(parts, stage, 0);
        }

        /** Goes back to what was chosen last and takes the next of what is left there. */
        private int goBack(Parts parts) {
            optionCount--;
            part = optionFact(PART);
            up = optionFact(UP);
            place = optionFact(PLACE);
            frameCount = optionFact(FRAMES);
            int left = optionFact(LEFT);
            switch (parts.fact(part, Parts.SORT)) {
                case Parts.CHOICE: return choose(parts, left);
                case Parts.REPETITION: return parts.fact(part, Parts.MORE) == 1 ? DONE : onceMore(parts, left);
                default: return order(parts, left / EIGHT, left % EIGHT);
            }
        }

        private int takeLetter(int letter) {
            if (place >= now.table.size || place < 0 || place >= ROWS) {
                return BACK;
            }
            letters[place] = letter;
            Condition condition = isLetter(letter) ? now.conditions[letter] : null;
            if (condition != null && !condition.isTrue(this, place)) {
                return BACK;
            }
            place++;
            return DONE;
        }

        /** Comes to a part of a sequence; behind the last one there is nothing to go on with, so it needs no frame. */
        private int comeWithin(Parts parts, int child) {
            if (parts.fact(child, Parts.YOUNGER) >= 0) {
                pushFrame(child);
            }
            part = child;
            return COME;
        }

        private int choose(Parts parts, int child) {
            int younger = parts.fact(child, Parts.YOUNGER);
            if (younger >= 0) {
                pushOption(younger);
            }
            part = child;
            return COME;
        }

        private int repeat(Parts parts, int times, int began) {
            int least = parts.fact(part, Parts.LEAST);
            int limit = parts.fact(part, Parts.MOST);
            if (times > least && place == began) {
                return BACK;
            }
            if (times < least) {
                return onceMore(parts, times);
            }
            if (times == limit && limit != Parts.WITHOUT_MOST) {
                return DONE;
            }
            pushOption(times);
            return parts.fact(part, Parts.MORE) == 1 ? onceMore(parts, times) : DONE;
        }

        private int onceMore(Parts parts, int times) {
            pushFrame(times + 1);
            part = parts.fact(part, Parts.ELDEST);
            return COME;
        }

        /** Comes to the first part that isn't done (a bit each), from a rank on. */
        private int order(Parts parts, int done, int from) {
            int inner = parts.fact(part, Parts.INNER);
            int rank = notDone(done, from, inner);
            if (rank >= inner) {
                return DONE;
            }
            int later = notDone(done, rank + 1, inner);
            if (later < inner) {
                pushOption(done * EIGHT + later);
            }
            int child = parts.fact(part, Parts.ELDEST);
            for (int i = 0; i < rank; i++) {
                child = parts.fact(child, Parts.YOUNGER);
            }
            pushFrame(done | 1 << rank);
            part = child;
            return COME;
        }

        private static int notDone(int done, int from, int inner) {
            int rank = from;
            while (rank < inner && (done >> rank & 1) == 1) {
                rank++;
            }
            return rank;
        }

        private void pushFrame(int stage) {
            int i = frameCount * FRAME;
            if (i + FRAME > frames.length) {
                frames = Arrays.copyOf(frames, 2 * frames.length);
            }
            if (i >= 0 && i + FRAME <= frames.length) {
                frames[i + PART] = part;
                frames[i + UP] = up;
                frames[i + STAGE] = stage;
                frames[i + BEGAN] = place;
                up = frameCount;
                frameCount++;
            }
        }

        private int frameFact(int frame, int what) {
            int i = frame * FRAME + what;
            return frame < 0 || i < 0 || i >= frames.length ? NONE : frames[i];
        }

        private void pushOption(int left) {
            int i = optionCount * OPTION;
            if (i + OPTION > options.length) {
                options = Arrays.copyOf(options, 2 * options.length);
            }
            if (i >= 0 && i + OPTION <= options.length) {
                options[i + PART] = part;
                options[i + UP] = up;
                options[i + LEFT] = left;
                options[i + PLACE] = place;
                options[i + FRAMES] = frameCount;
                optionCount++;
            }
        }

        private int optionFact(int what) {
            int i = optionCount * OPTION + what;
            return i < 0 || i >= options.length ? NONE : options[i];
        }

        /** Whether a letter's condition holds at a row, were the start there. */
        boolean allows(int letter, int row) {
            if (!isLetter(letter) || row < 0 || row >= ROWS) {
                return false;
            }
            Condition condition = now.conditions[letter];
            start = row;
            letters[row] = letter;
            return condition == null || condition.isTrue(this, row);
        }

        /** The first row with a letter up to a row; NONE. */
        int earliest(int letter, int last) {
            for (int row = start; row <= last; row++) {
                if (letterAt(row) == letter) {
                    return row;
                }
            }
            return NONE;
        }

        int latest(int letter, int last) {
            for (int row = last; row >= start; row--) {
                if (letterAt(row) == letter) {
                    return row;
                }
            }
            return NONE;
        }

        int count(int letter, int last) {
            int count = 0;
            for (int row = start; row <= last; row++) {
                if (letterAt(row) == letter) {
                    count++;
                }
            }
            return count;
        }

        int sum(int letter, int column, int last) {
            int sum = 0;
            for (int row = start; row <= last; row++) {
                int number = now.table.number(row, column);
                if (letterAt(row) == letter && number != MISSING) {
                    sum += number;
                }
            }
            return sum;
        }
    }

    /** The matches of the latest run. */
    private static final class Matches {
        private static final int MOST = ROWS + 1;

        private final int[] starts = new int[MOST];
        private final int[] ends = new int[MOST];
        private final int[] letters = new int[MOST * ROWS];
        int size;

        boolean has(int match) {
            return match >= 0 && match < size && match < MOST;
        }

        void add(int start, int end, Search found) {
            int match = size;
            if (match < 0 || match >= MOST) {
                return;
            }
            size++;
            starts[match] = start;
            ends[match] = end;
            for (int row = 0; row < ROWS; row++) {
                letters[match * ROWS + row] = row >= start && row < end ? found.letterAt(row) : NOT_SO;
            }
        }

        void become(Matches other) {
            System.arraycopy(other.starts, 0, starts, 0, MOST);
            System.arraycopy(other.ends, 0, ends, 0, MOST);
            System.arraycopy(other.letters, 0, letters, 0, MOST * ROWS);
            size = other.size;
        }

        int startOf(int match) {
            return has(match) ? starts[match] : NONE;
        }

        int rowsOf(int match) {
            return has(match) ? ends[match] - starts[match] : NONE;
        }

        int letterOf(int match, int row) {
            return has(match) && row >= 0 && row < ROWS ? letters[match * ROWS + row] : NOT_SO;
        }

        int lettersOf(int match) {
            int bits = 0;
            for (int row = 0; row < ROWS; row++) {
                int letter = letterOf(match, row);
                if (letter >= 0) {
                    bits |= 1 << letter;
                }
            }
            return bits;
        }

        int covering(int row) {
            int count = 0;
            for (int match = 0; match < size; match++) {
                if (letterOf(match, row) >= 0) {
                    count++;
                }
            }
            return count;
        }

        long measured(int match, int letter, int column, int measure, Table table) {
            int count = 0, there = 0;
            long sum = 0, least = NO, most = NO, earliest = NO, latest = NO;
            for (int row = 0; row < ROWS; row++) {
                int has = letterOf(match, row);
                if (has < 0 || letter != LETTERS && has != letter) {
                    continue;
                }
                count++;
                int number = table.number(row, column);
                if (number == MISSING) {
                    continue;
                }
                sum += number;
                least = there == 0 ? number : Math.min(least, number);
                most = Math.max(most, number);
                earliest = there == 0 ? number : earliest;
                latest = number;
                there++;
            }
            switch (measure) {
                case 0: return count;
                case 1: return sum;
                case 2: return least;
                case 3: return most;
                case 4: return earliest;
                case 5: return latest;
                default: return there == 0 ? NO : Math.floorDiv(sum, (long) there);
            }
        }
    }
}
