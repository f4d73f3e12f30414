import java.util.Arrays;

/**
 * A sheet of 6 by 6 cells whose formulas refer to one another.
 *
 * A cell is known inside by one number, row by row: 6 times its row, and its column.
 */
public final class SheetRefs {
    public static final int NONE = -1, BAD = -2, NO = -3, FULL = -4;

    private static final int SIDE = 6;
    private static final int CELLS = SIDE * SIDE;
    private static final int MOST_TERMS = 4;
    private static final int SLOTS = CELLS * MOST_TERMS;

    private static final int COLUMNS = 0, ROWS = 1;

    /** Faults are answered as this less the fault, so that they never look like BAD, NO or FULL. */
    private static final int FAULT_ANSWER = -10;

    private final Text text;
    private final Reader reader;
    private final Sheet sheet;
    private final Past past;
    private final Values values;
    private final Page page;
    private int bads;
    private int nos;
    private int fulls;

    public SheetRefs() {
        text = new Text();
        reader = new Reader(text);
        sheet = new Sheet();
        past = new Past();
        values = new Values(sheet);
        page = new Page();
    }

    // ---- cells

    public int type(int c) {
        if (!isWithin(c, 0, 127)) {
            return refused(BAD);
        }
        if (text.isFull()) {
            return refused(FULL);
        }
        return text.add(c);
    }

    public int clear() {
        return text.drop();
    }

    public int put(int c, int r) {
        if (!isPlace(c, r)) {
            return refused(BAD);
        }
        int size = reader.read();
        if (size == 0) {
            return FAULT_ANSWER - reader.fault();
        }
        leaveState();
        sheet.fill(cellAt(c, r), reader.found);
        return size;
    }

    public int empties(int c, int r) {
        if (!isPlace(c, r)) {
            return refused(BAD);
        }
        leaveState();
        int had = sheet.sizeOf(cellAt(c, r));
        sheet.drop(cellAt(c, r));
        return had;
    }

    public int comes(int way, int a, int n) {
        if (!isWithin(way, 0, 1) || !isWithin(a, 0, SIDE - 1) || !isWithin(n, 1, SIDE)) {
            return refused(BAD);
        }
        int axis = axisOf(way);
        if (sheet.wouldLose(axis, a, n)) {
            return refused(NO);
        }
        leaveState();
        sheet.openLines(axis, a, n);
        return sheet.filledCells();
    }

    public int goes(int way, int a, int n) {
        if (!isWithin(way, 0, 1) || !isWithin(a, 0, SIDE - 1) || !isWithin(n, 1, SIDE - a)) {
            return refused(BAD);
        }
        leaveState();
        sheet.closeLines(axisOf(way), a, n);
        return sheet.filledCells();
    }

    public int moves(int c, int r, int w, int h, int p, int q) {
        if (!isArea(c, r, w, h) || !isArea(p, q, w, h)) {
            return refused(BAD);
        }
        leaveState();
        return sheet.moveArea(new Area(c, r, w, h), new Area(p, q, w, h));
    }

    public int copies(int c, int r, int w, int h, int p, int q) {
        if (!isArea(c, r, w, h) || !isArea(p, q, w, h)) {
            return refused(BAD);
        }
        leaveState();
        return sheet.copyArea(new Area(c, r, w, h), new Area(p, q, w, h));
    }

    public int back() {
        if (past.size == 0) {
            return refused(NO);
        }
        past.restore(sheet);
        values.forget();
        return past.size;
    }

    // ---- what is told

    public int terms(int c, int r) {
        if (!isPlace(c, r)) {
            return refused(BAD);
        }
        return sheet.sizeOf(cellAt(c, r));
    }

    public int term(int c, int r, int i, int what) {
        if (!isPlace(c, r) || !isWithin(what, 0, 5)) {
            return refused(BAD);
        }
        int term = sheet.termOf(cellAt(c, r), i);
        if (term == Term.NOTHING) {
            return refused(BAD);
        }
        if (what == 0) {
            return Term.kind(term) - Term.NUMBER;
        }
        if (what == 5) {
            return Term.fixed(term);
        }
        if (Term.kind(term) == Term.NUMBER) {
            return what == 1 ? Term.number(term) : 0;
        }
        return Term.coordinate(term, what - 1);
    }

    public int shown(int c, int r, int k) {
        if (!isPlace(c, r) || k < 0) {
            return refused(BAD);
        }
        page.write(sheet, cellAt(c, r));
        return page.letterAt(k);
    }

    public int value(int c, int r) {
        if (!isPlace(c, r)) {
            return refused(BAD);
        }
        int cell = cellAt(c, r);
        return values.isFaulty(cell) ? FAULT_ANSWER - values.faults[cell] : values.sums[cell];
    }

    public int why(int c, int r) {
        if (!isPlace(c, r)) {
            return refused(BAD);
        }
        int cell = cellAt(c, r);
        if (!values.isFaulty(cell)) {
            return NONE;
        }
        int at = values.faultCells[cell];
        return 10 * columnOf(at) + rowOf(at);
    }

    public int deep(int c, int r) {
        if (!isPlace(c, r)) {
            return refused(BAD);
        }
        int cell = cellAt(c, r);
        return values.isFaulty(cell) ? values.faultDepths[cell] : NONE;
    }

    public int users(int c, int r) {
        if (!isPlace(c, r)) {
            return refused(BAD);
        }
        return sheet.referencesTo(c, r);
    }

    public int count(int what) {
        switch (what) {
            case 0:
                return sheet.filledCells();
            case 1:
                return sheet.allTerms();
            case 2:
                return sheet.brokenTerms();
            case 3:
                return values.faultyCells();
            default:
                return refused(BAD);
        }
    }

    public int told(int what) {
        switch (what) {
            case 0:
                return bads;
            case 1:
                return nos;
            case 2:
                return fulls;
            case 3:
                return text.length;
            case 4:
                return past.size;
            default:
                return refused(BAD);
        }
    }

    public long digest() {
        long h = 1626;
        for (int what = 0; what <= 4; what++) {
            h = 31 * h + told(what);
        }
        for (int what = 0; what <= 3; what++) {
            h = 31 * h + count(what);
        }
        for (int cell = 0; cell < CELLS; cell++) {
            h = digestWith(h, columnOf(cell), rowOf(cell));
        }
        return h;
    }

    private long digestWith(long before, int c, int r) {
        int size = terms(c, r);
        long h = 31 * before + size;
        for (int i = 0; i < size; i++) {
            for (int what = 0; what <= 5; what++) {
                h = 31 * h + term(c, r, i, what);
            }
        }
        h = 31 * h + value(c, r);
        return 31 * h + why(c, r);
    }

    private int refused(int how) {
        if (how == BAD) {
            bads++;
        } else if (how == NO) {
            nos++;
        } else {
            fulls++;
        }
        return how;
    }

    /** Stands ahead of every change: what was can be gone back to, and no value holds any longer. */
    private void leaveState() {
        past.keep(sheet);
        values.forget();
    }

    private static boolean isWithin(int x, int least, int greatest) {
        return x >= least && x <= greatest;
    }

    private static boolean isPlace(int c, int r) {
        return isWithin(c, 0, SIDE - 1) && isWithin(r, 0, SIDE - 1);
    }

    /** The place is tested first, so that what is left for width and height can not wrap around. */
    private static boolean isArea(int c, int r, int w, int h) {
        return isPlace(c, r) && isWithin(w, 1, SIDE - c) && isWithin(h, 1, SIDE - r);
    }

    private static boolean isCell(int cell) {
        return cell >= 0 && cell < CELLS;
    }

    private static int cellAt(int c, int r) {
        return r * SIDE + c;
    }

    private static int columnOf(int cell) {
        return cell % SIDE;
    }

    private static int rowOf(int cell) {
        return cell / SIDE;
    }

    private static int axisOf(int way) {
        return way == 0 ? ROWS : COLUMNS;
    }

    /** The text: the bytes that were typed since it was last empty. */
    private static final class Text {
        static final int END = -1;
        private static final int MOST_BYTES = 60;

        private final int[] bytes = new int[MOST_BYTES];
        int length;

        boolean isFull() {
            return length >= MOST_BYTES;
        }

        int add(int b) {
            if (length < MOST_BYTES) {
                bytes[length] = b;
                length++;
            }
            return length;
        }

        int drop() {
            int had = length;
            length = 0;
            return had;
        }

        int byteAt(int place) {
            return place >= 0 && place < length ? bytes[place] : END;
        }
    }

    /**
     * Reads the text as a formula. Whenever reading stops early, only blanks lie between the place
     * that was come to and the byte that can not stand there.
     */
    private static final class Reader {
        private static final int MOST_FIGURES = 3;

        private final Text text;
        final int[] found = new int[MOST_TERMS];
        private int place;

        Reader(Text text) {
            this.text = text;
        }

        /** How many terms the text has; 0: it has a fault. */
        int read() {
            Arrays.fill(found, Term.NOTHING);
            place = 0;
            int size = 0;
            boolean more = true;
            while (more && size < MOST_TERMS) {
                int term = readTerm();
                if (term == Term.NOTHING) {
                    return 0;
                }
                found[size] = term;
                size++;
                more = takes('+');
            }
            return !more && next() == Text.END ? size : 0;
        }

        /** Where the fault is, after a read() that found one. */
        int fault() {
            next();
            return place;
        }

        private int readTerm() {
            if (isFigure(next())) {
                return readNumber();
            }
            if (takes('#')) {
                return Term.BROKEN;
            }
            return readReference();
        }

        /** Starts at a figure; a fourth one is left for the caller to stumble over. */
        private int readNumber() {
            int number = 0;
            for (int i = 0; i < MOST_FIGURES && isFigure(text.byteAt(place)); i++) {
                number = 10 * number + text.byteAt(place) - '0';
                place++;
            }
            return Term.ofNumber(number);
        }

        private int readReference() {
            int first = readPlace();
            if (first == Term.NOTHING || !takes(':')) {
                return first;
            }
            int second = readPlace();
            return second == Term.NOTHING ? Term.NOTHING : Term.ofBlock(first, second);
        }

        private int readPlace() {
            int fixed = takes('$') ? 1 : 0;
            int column = columnNamed(next());
            if (column == NONE) {
                return Term.NOTHING;
            }
            place++;
            fixed += takes('$') ? 2 : 0;
            int row = next() - '1';
            if (!isWithin(row, 0, SIDE - 1)) {
                return Term.NOTHING;
            }
            place++;
            return Term.ofPlace(column, row, fixed);
        }

        private boolean takes(int sign) {
            if (next() != sign) {
                return false;
            }
            place++;
            return true;
        }

        /** The byte to come, with the blanks ahead of it passed over. */
        private int next() {
            while (place < text.length && text.byteAt(place) == ' ') {
                place++;
            }
            return text.byteAt(place);
        }

        private static boolean isFigure(int b) {
            return b >= '0' && b <= '9';
        }

        private static int columnNamed(int letter) {
            int column = letter >= 'a' ? letter - 'a' : letter - 'A';
            return isWithin(column, 0, SIDE - 1) ? column : NONE;
        }
    }

    /**
     * A term is held in one number, so that no change of the sheet has to make objects. From its
     * least bit on: 3 bits for its kind; 4 that tell which coordinates are fixed; then its number,
     * or 3 bits for each coordinate: column, row (of a block the least ones), and of a block its
     * greatest column and row. What is not there is 0, so a broken term is its kind alone.
     */
    private static final class Term {
        static final int NOTHING = 0, NUMBER = 1, PLACE = 2, BLOCK = 3, BROKEN = 4;

        private static final int FIXED_AT = 3;
        private static final int BODY_AT = 7;

        static int ofNumber(int number) {
            return NUMBER | (number << BODY_AT);
        }

        static int ofPlace(int column, int row, int fixed) {
            int term = PLACE | (fixed << FIXED_AT);
            return with(with(term, COLUMNS, column), ROWS, row);
        }

        static int ofBlock(int first, int second) {
            int fixed = fixed(first) | (fixed(second) << 2);
            int term = BLOCK | (fixed << FIXED_AT);
            for (int axis = COLUMNS; axis <= ROWS; axis++) {
                term = with(term, axis, coordinate(first, axis));
                term = with(term, axis + 2, coordinate(second, axis));
            }
            return ordered(term);
        }

        static int kind(int term) {
            return term & 7;
        }

        static int fixed(int term) {
            return (term >> FIXED_AT) & 15;
        }

        static int number(int term) {
            return term >> BODY_AT;
        }

        static int coordinate(int term, int index) {
            return (term >> (BODY_AT + 3 * index)) & 7;
        }

        static boolean refers(int term) {
            return kind(term) == PLACE || kind(term) == BLOCK;
        }

        static int least(int term, int axis) {
            return coordinate(term, axis);
        }

        /** A place is taken as a block of one cell here. */
        static int greatest(int term, int axis) {
            return coordinate(term, kind(term) == BLOCK ? axis + 2 : axis);
        }

        static int whenLinesCome(int term, int axis, int a, int n) {
            if (!refers(term) || greatest(term, axis) < a) {
                return term;
            }
            int least = least(term, axis);
            int leastThen = least < a ? least : least + n;
            if (leastThen >= SIDE) {
                return BROKEN;
            }
            int come = with(term, axis, leastThen);
            if (kind(term) == PLACE) {
                return come;
            }
            return with(come, axis + 2, Math.min(greatest(term, axis) + n, SIDE - 1));
        }

        /**
         * A least line that goes becomes a, a greatest one a - 1: that is as far as they can come
         * up, and it leaves nothing of a term whose lines all go.
         */
        static int whenLinesGo(int term, int axis, int a, int n) {
            if (!refers(term) || greatest(term, axis) < a) {
                return term;
            }
            int least = least(term, axis);
            int greatest = greatest(term, axis);
            int leastThen = least < a ? least : Math.max(least - n, a);
            int greatestThen = Math.max(greatest - n, a - 1);
            if (greatestThen < leastThen) {
                return BROKEN;
            }
            int gone = with(term, axis, leastThen);
            return kind(term) == PLACE ? gone : with(gone, axis + 2, greatestThen);
        }

        /** The coordinates whose bits are in staying keep still, the others go as far as told. */
        static int further(int term, int columns, int rows, int staying) {
            if (!refers(term)) {
                return term;
            }
            int coordinates = kind(term) == BLOCK ? 4 : 2;
            int then = term;
            for (int i = 0; i < coordinates; i++) {
                boolean stays = ((staying >> i) & 1) == 1;
                int by = i % 2 == COLUMNS ? columns : rows;
                int x = coordinate(term, i) + (stays ? 0 : by);
                if (!isWithin(x, 0, SIDE - 1)) {
                    return BROKEN;
                }
                then = with(then, i, x);
            }
            return kind(term) == BLOCK ? ordered(then) : then;
        }

        private static int ordered(int block) {
            int term = block;
            for (int axis = COLUMNS; axis <= ROWS; axis++) {
                if (coordinate(term, axis) > coordinate(term, axis + 2)) {
                    term = crossed(term, axis);
                }
            }
            return term;
        }

        private static int crossed(int block, int axis) {
            int first = coordinate(block, axis);
            int second = coordinate(block, axis + 2);
            int term = with(with(block, axis, second), axis + 2, first);
            int firstFixed = (fixed(block) >> axis) & 1;
            int secondFixed = (fixed(block) >> (axis + 2)) & 1;
            // Two bits that differ change places when both are turned over.
            return firstFixed == secondFixed ? term : term ^ ((5 << axis) << FIXED_AT);
        }

        private static int with(int term, int index, int x) {
            int shift = BODY_AT + 3 * index;
            return (term & ~(7 << shift)) | (x << shift);
        }
    }

    /** A rectangle of cells that lies within the sheet. */
    private static final class Area {
        final int column;
        final int row;
        private final int width;
        private final int height;

        Area(int column, int row, int width, int height) {
            this.column = column;
            this.row = row;
            this.width = width;
            this.height = height;
        }

        int size() {
            return width * height;
        }

        /** The i-th cell, row by row; NONE: not so many. */
        int cell(int i) {
            if (i < 0 || i >= size() || width < 1) {
                return NONE;
            }
            return cellAt(column + i % width, row + i / width);
        }

        boolean holds(int term) {
            return Term.least(term, COLUMNS) >= column
                && Term.greatest(term, COLUMNS) < column + width
                && Term.least(term, ROWS) >= row
                && Term.greatest(term, ROWS) < row + height;
        }
    }

    /** All cells: four slots each, its terms first, NOTHING in the slots behind them. */
    private static final class Sheet {
        private static final int GONE = -1;

        final int[] slots = new int[SLOTS];
        /** The slots as they were ahead of the change that is under way. */
        private final int[] ahead = new int[SLOTS];

        int termOf(int cell, int i) {
            if (!isCell(cell) || !isWithin(i, 0, MOST_TERMS - 1)) {
                return Term.NOTHING;
            }
            return slots[cell * MOST_TERMS + i];
        }

        int sizeOf(int cell) {
            int size = 0;
            while (size < MOST_TERMS && termOf(cell, size) != Term.NOTHING) {
                size++;
            }
            return size;
        }

        boolean isEmpty(int cell) {
            return termOf(cell, 0) == Term.NOTHING;
        }

        void fill(int cell, int[] terms) {
            if (isCell(cell) && terms.length >= MOST_TERMS) {
                System.arraycopy(terms, 0, slots, cell * MOST_TERMS, MOST_TERMS);
            }
        }

        void drop(int cell) {
            for (int i = 0; i < MOST_TERMS && isCell(cell); i++) {
                slots[cell * MOST_TERMS + i] = Term.NOTHING;
            }
        }

        boolean wouldLose(int axis, int a, int n) {
            for (int cell = 0; cell < CELLS; cell++) {
                if (!isEmpty(cell) && lineAfterComing(lineOf(cell, axis), a, n) == GONE) {
                    return true;
                }
            }
            return false;
        }

        void openLines(int axis, int a, int n) {
            lookAhead();
            Arrays.fill(slots, Term.NOTHING);
            for (int cell = 0; cell < CELLS; cell++) {
                takeAlong(cell, axis, lineAfterComing(lineOf(cell, axis), a, n));
            }
            for (int i = 0; i < SLOTS; i++) {
                slots[i] = Term.whenLinesCome(slots[i], axis, a, n);
            }
        }

        void closeLines(int axis, int a, int n) {
            lookAhead();
            Arrays.fill(slots, Term.NOTHING);
            for (int cell = 0; cell < CELLS; cell++) {
                takeAlong(cell, axis, lineAfterGoing(lineOf(cell, axis), a, n));
            }
            for (int i = 0; i < SLOTS; i++) {
                slots[i] = Term.whenLinesGo(slots[i], axis, a, n);
            }
        }

        /** How many terms became broken by it. */
        int moveArea(Area source, Area target) {
            lookAhead();
            for (int i = 0; i < source.size(); i++) {
                drop(source.cell(i));
            }
            for (int i = 0; i < source.size(); i++) {
                takeTo(source.cell(i), target.cell(i));
            }
            int broken = 0;
            for (int i = 0; i < SLOTS; i++) {
                int then = whenMoved(slots[i], source, target);
                if (then != slots[i] && then == Term.BROKEN) {
                    broken++;
                }
                slots[i] = then;
            }
            return broken;
        }

        /** How many terms are broken in the target then. */
        int copyArea(Area source, Area target) {
            lookAhead();
            int columns = target.column - source.column;
            int rows = target.row - source.row;
            int broken = 0;
            for (int i = 0; i < source.size(); i++) {
                takeTo(source.cell(i), target.cell(i));
                broken += spreadTerms(target.cell(i), columns, rows);
            }
            return broken;
        }

        int filledCells() {
            int filled = 0;
            for (int cell = 0; cell < CELLS; cell++) {
                if (!isEmpty(cell)) {
                    filled++;
                }
            }
            return filled;
        }

        int allTerms() {
            int all = 0;
            for (int i = 0; i < SLOTS; i++) {
                if (slots[i] != Term.NOTHING) {
                    all++;
                }
            }
            return all;
        }

        int brokenTerms() {
            int broken = 0;
            for (int i = 0; i < SLOTS; i++) {
                if (slots[i] == Term.BROKEN) {
                    broken++;
                }
            }
            return broken;
        }

        int referencesTo(int c, int r) {
            int references = 0;
            for (int i = 0; i < SLOTS; i++) {
                int term = slots[i];
                if (Term.refers(term)
                    && isWithin(c, Term.least(term, COLUMNS), Term.greatest(term, COLUMNS))
                    && isWithin(r, Term.least(term, ROWS), Term.greatest(term, ROWS))) {
                    references++;
                }
            }
            return references;
        }

        private void lookAhead() {
            System.arraycopy(slots, 0, ahead, 0, SLOTS);
        }

        private void takeTo(int from, int to) {
            if (isCell(from) && isCell(to)) {
                int first = from * MOST_TERMS;
                System.arraycopy(ahead, first, slots, to * MOST_TERMS, MOST_TERMS);
            }
        }

        private void takeAlong(int cell, int axis, int line) {
            if (line != GONE) {
                int steps = line - lineOf(cell, axis);
                takeTo(cell, cell + steps * (axis == COLUMNS ? 1 : SIDE));
            }
        }

        /** How many terms of the cell are broken then. */
        private int spreadTerms(int cell, int columns, int rows) {
            int broken = 0;
            for (int i = 0; i < MOST_TERMS && isCell(cell); i++) {
                int slot = cell * MOST_TERMS + i;
                int term = slots[slot];
                slots[slot] = Term.further(term, columns, rows, Term.fixed(term));
                if (slots[slot] == Term.BROKEN) {
                    broken++;
                }
            }
            return broken;
        }

        private static int whenMoved(int term, Area source, Area target) {
            if (!Term.refers(term)) {
                return term;
            }
            if (source.holds(term)) {
                int columns = target.column - source.column;
                return Term.further(term, columns, target.row - source.row, 0);
            }
            return target.holds(term) ? Term.BROKEN : term;
        }

        private static int lineOf(int cell, int axis) {
            return axis == COLUMNS ? columnOf(cell) : rowOf(cell);
        }

        private static int lineAfterComing(int line, int a, int n) {
            if (line < a) {
                return line;
            }
            return line + n < SIDE ? line + n : GONE;
        }

        private static int lineAfterGoing(int line, int a, int n) {
            if (line < a) {
                return line;
            }
            return line >= a + n ? line - n : GONE;
        }
    }

    /** The states to go back to: a ring of rows, so that the oldest is written over. */
    private static final class Past {
        private static final int MOST_STATES = 6;

        private final int[] states = new int[MOST_STATES * SLOTS];
        private int next;
        int size;

        void keep(Sheet sheet) {
            System.arraycopy(sheet.slots, 0, states, next * SLOTS, SLOTS);
            next = (next + 1) % MOST_STATES;
            size = Math.min(size + 1, MOST_STATES);
        }

        void restore(Sheet sheet) {
            if (size == 0) {
                return;
            }
            next = (next + MOST_STATES - 1) % MOST_STATES;
            size--;
            System.arraycopy(states, next * SLOTS, sheet.slots, 0, SLOTS);
        }
    }

    /**
     * The values of cells, or their faults; kept until the sheet changes.
     *
     * A cell without a fault has its sum whoever asks. A fault is kept only for the cell that was
     * asked first: which ring is met depends on where the asking began.
     */
    private static final class Values {
        private static final int UNKNOWN = -1, FINE = 0, BROKEN = 1, RING = 2, ABOVE = 3;
        private static final int GREATEST_SUM = 99999;

        private final Sheet sheet;
        final int[] faults = new int[CELLS];
        final int[] sums = new int[CELLS];
        final int[] faultCells = new int[CELLS];
        final int[] faultDepths = new int[CELLS];
        private final boolean[] asked = new boolean[CELLS];
        private int met;
        private int metAt;
        private int metDepth;

        Values(Sheet sheet) {
            this.sheet = sheet;
            Arrays.fill(faults, UNKNOWN);
        }

        void forget() {
            Arrays.fill(faults, UNKNOWN);
        }

        int faultyCells() {
            int faulty = 0;
            for (int cell = 0; cell < CELLS; cell++) {
                if (isFaulty(cell)) {
                    faulty++;
                }
            }
            return faulty;
        }

        /** Settles the cell: behind it either its fault, or its sum, can be read. */
        boolean isFaulty(int cell) {
            if (faults[cell] == UNKNOWN) {
                met = FINE;
                ask(cell, 0);
                if (met != FINE) {
                    faults[cell] = met;
                    faultCells[cell] = metAt;
                    faultDepths[cell] = metDepth;
                }
            }
            return faults[cell] != FINE;
        }

        /** The cell's sum; it is worth something only if no fault has been met then. */
        private int ask(int cell, int depth) {
            if (faults[cell] == FINE) {
                return sums[cell];
            }
            // No more cells than there are can be asked at once without a ring.
            if (asked[cell] || depth >= CELLS) {
                meet(RING, cell, depth - 1);
                return 0;
            }
            asked[cell] = true;
            int sum = 0;
            for (int i = 0; i < MOST_TERMS && met == FINE; i++) {
                sum = addTerm(sum, sheet.termOf(cell, i), cell, depth);
            }
            asked[cell] = false;
            if (met == FINE) {
                faults[cell] = FINE;
                sums[cell] = sum;
            }
            return sum;
        }

        private int addTerm(int before, int term, int cell, int depth) {
            if (Term.kind(term) == Term.NUMBER) {
                return add(before, Term.number(term), cell, depth);
            }
            if (Term.kind(term) == Term.BROKEN) {
                meet(BROKEN, cell, depth);
            }
            if (!Term.refers(term)) {
                return before;
            }
            int sum = before;
            int lastRow = Term.greatest(term, ROWS);
            int lastColumn = Term.greatest(term, COLUMNS);
            for (int r = Term.least(term, ROWS); r <= lastRow && met == FINE; r++) {
                for (int c = Term.least(term, COLUMNS); c <= lastColumn && met == FINE; c++) {
                    int sumThere = isPlace(c, r) ? ask(cellAt(c, r), depth + 1) : 0;
                    sum = add(sum, sumThere, cell, depth);
                }
            }
            return sum;
        }

        private int add(int sum, int more, int cell, int depth) {
            if (sum + more > GREATEST_SUM) {
                meet(ABOVE, cell, depth);
            }
            return sum + more;
        }

        /** The first fault is the one that counts. */
        private void meet(int fault, int at, int depth) {
            if (met == FINE) {
                met = fault;
                metAt = at;
                metDepth = depth;
            }
        }
    }

    /** A cell as written, letter by letter. */
    private static final class Page {
        /** Four blocks with every coordinate fixed, and three signs between them. */
        private static final int MOST_LETTERS = 39;

        private final int[] letters = new int[MOST_LETTERS];
        private int length;

        int letterAt(int k) {
            return k >= 0 && k < length ? letters[k] : NONE;
        }

        void write(Sheet sheet, int cell) {
            length = 0;
            int size = sheet.sizeOf(cell);
            for (int i = 0; i < size; i++) {
                if (i > 0) {
                    add('+');
                }
                writeTerm(sheet.termOf(cell, i));
            }
        }

        private void writeTerm(int term) {
            switch (Term.kind(term)) {
                case Term.NUMBER:
                    writeNumber(Term.number(term));
                    break;
                case Term.PLACE:
                    writePlace(term, 0);
                    break;
                case Term.BLOCK:
                    writePlace(term, 0);
                    add(':');
                    writePlace(term, 2);
                    break;
                default:
                    add('#');
                    break;
            }
        }

        private void writeNumber(int number) {
            if (number >= 100) {
                add('0' + number / 100);
            }
            if (number >= 10) {
                add('0' + number / 10 % 10);
            }
            add('0' + number % 10);
        }

        /** Writes the coordinates from the first-th on: a column and a row. */
        private void writePlace(int term, int first) {
            int fixed = Term.fixed(term) >> first;
            if ((fixed & 1) != 0) {
                add('$');
            }
            add('A' + Term.coordinate(term, first));
            if ((fixed & 2) != 0) {
                add('$');
            }
            add('1' + Term.coordinate(term, first + 1));
        }

        private void add(int letter) {
            if (length < MOST_LETTERS) {
                letters[length] = letter;
                length++;
            }
        }
    }
}
