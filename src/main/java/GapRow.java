/** Records in order in one row with gaps; ../shared/DOC.md tells what each call promises. */
public final class GapRow {
    public static final int NONE = -1, BAD = -2, NO = -3, FULL = -4;

    private static final int LEAST_SIZE = 16;
    private static final int MOST_SIZE = 64;
    private static final int SEGMENT_CELLS = 4;
    private static final int MOST_KEY = 999;
    private static final int MOST_VALUE = 99;
    private static final int MOST_LOGGED = 8;
    private static final int MOST_STATES = 5;
    private static final int MOST_TEXT = 120;
    private static final int MOST_FIGURES = 3;

    private static final int PUT = 'p';
    private static final int TAKE = 't';
    private static final int MODE = 'm';
    private static final int DROP = 'd';

    private static final int FINE = 0;
    private static final int REPLACED = 100;
    private static final int FAULT_BASE = -10;
    private static final int ENDED_BASE = -1000;
    private static final long DIGEST_START = 1837L;

    private final Row row;
    private final Spacer spacer;
    private final States states;
    private final Reader reader;
    private final int[] text;
    private int textLength;
    private final int[] refused;

    public GapRow() {
        row = new Row();
        spacer = new Spacer();
        states = new States();
        reader = new Reader();
        text = new int[MOST_TEXT];
        textLength = 0;
        refused = new int[3];
    }

    // ---- records

    public int puts(int k, int v) {
        int refusal = admit(PUT, k, v);
        return refusal == FINE ? putKey(k, v) : refusal;
    }

    public int takes(int k) {
        int refusal = admit(TAKE, k, 0);
        return refusal == FINE ? takeKey(k) : refusal;
    }

    public int drops(int a, int b) {
        int refusal = admit(DROP, a, b);
        return refusal == FINE ? dropKeys(a, b) : refusal;
    }

    public int mode(int n) {
        int refusal = admit(MODE, n, 0);
        return refusal == FINE ? turnMode(n) : refusal;
    }

    public int spaces() {
        states.keep(row);
        return spacer.space(row, 0, row.size);
    }

    // ---- what is told

    public int value(int k) {
        if (!within(k, MOST_KEY)) {
            return refuse(BAD);
        }
        int found = row.cellOf(k);
        return found == NONE ? refuse(NO) : row.valueIn(found);
    }

    public int cell(int k) {
        return within(k, MOST_KEY) ? row.cellOf(k) : refuse(BAD);
    }

    public int at(int cell) {
        return within(cell, row.size - 1) ? row.keyIn(cell) : refuse(BAD);
    }

    public int rank(int k) {
        return within(k, MOST_KEY + 1) ? row.keysBelow(k) : refuse(BAD);
    }

    public int key(int i) {
        return i >= 0 ? row.keyNumber(i) : refuse(BAD);
    }

    public int scan(int a, int b, int what) {
        if (!isSpan(a, b) || !within(what, 2)) {
            return refuse(BAD);
        }
        if (what == 0) {
            return row.keysBelow(b + 1) - row.keysBelow(a);
        }
        return what == 1 ? row.valuesFrom(a, b) : row.cellsRead(a, b);
    }

    public int index(int g) {
        return within(g, row.size / SEGMENT_CELLS - 1) ? row.leastKeyOf(g) : refuse(BAD);
    }

    public int window(int i, int j, int what) {
        if (!within(i, row.top()) || !within(what, 2)) {
            return refuse(BAD);
        }
        int cells = cellsOf(i);
        if (!within(j, row.size / cells - 1)) {
            return refuse(BAD);
        }
        if (what == 0) {
            return row.keysIn(j * cells, cells);
        }
        return what == 1 ? row.most(i) : row.least(i);
    }

    public int count(int what) {
        return within(what, 6) ? counted(what) : refuse(BAD);
    }

    public int log(int i, int what) {
        if (i < 0 || !within(what, 2)) {
            return refuse(BAD);
        }
        return row.logged(i, what);
    }

    // ---- texts

    public int type(int c) {
        if (!within(c, 127)) {
            return refuse(BAD);
        }
        if (textLength >= text.length) {
            return refuse(FULL);
        }
        text[textLength] = c;
        textLength++;
        return textLength;
    }

    public int clear() {
        int had = textLength;
        textLength = 0;
        return had;
    }

    public int does() {
        int fault = faultOfText();
        if (fault != NONE) {
            return FAULT_BASE - fault;
        }
        states.mark(row);
        int done = 0;
        reader.begin();
        for (int i = 0; i < textLength && i < text.length; i++) {
            if (reader.take(text[i]) != Reader.ORDER_ENDS) {
                continue;
            }
            if (refusalOf(reader.kind, reader.first, reader.second) != FINE) {
                states.returnToMark(row);
                return ENDED_BASE - done;
            }
            carryOut(reader.kind, reader.first, reader.second);
            done++;
        }
        states.keepMark();
        return done;
    }

    public int back() {
        return states.goBack(row) ? states.held : refuse(NO);
    }

    public int told(int what) {
        return within(what, 4) ? toldOf(what) : refuse(BAD);
    }

    public long digest() {
        long h = DIGEST_START;
        for (int what = 0; what <= 4; what++) {
            h = 31 * h + toldOf(what);
        }
        for (int what = 0; what <= 6; what++) {
            h = 31 * h + counted(what);
        }
        for (int c = 0; c < row.size; c++) {
            h = 31 * h + row.keyIn(c);
            if (row.keyIn(c) != NONE) {
                h = 31 * h + row.valueIn(c);
            }
        }
        for (int g = 0; g < row.size / SEGMENT_CELLS; g++) {
            h = 31 * h + row.leastKeyOf(g);
        }
        for (int i = 0; i < row.logLength; i++) {
            for (int what = 0; what <= 2; what++) {
                h = 31 * h + row.logged(i, what);
            }
        }
        return h;
    }

    // ---- what calls and ORDERS share

    // The STATE has to be left ahead of the change; what follows FINE can not be refused any more.
    private int admit(int kind, int a, int b) {
        int refusal = refusalOf(kind, a, b);
        if (refusal != FINE) {
            return refuse(refusal);
        }
        states.keep(row);
        return FINE;
    }

    // Asked ahead of any change, so that neither a call nor an ORDER has to undo half of itself.
    private int refusalOf(int kind, int a, int b) {
        switch (kind) {
            case PUT:
                if (!within(a, MOST_KEY) || !within(b, MOST_VALUE)) {
                    return BAD;
                }
                return row.cellOf(a) != NONE || Spacer.hasRoom(row, a) ? FINE : FULL;
            case TAKE:
                if (!within(a, MOST_KEY)) {
                    return BAD;
                }
                return row.cellOf(a) != NONE ? FINE : NO;
            case DROP:
                return isSpan(a, b) ? FINE : BAD;
            case MODE:
                return within(a, 1) ? FINE : BAD;
            default:
                return BAD;
        }
    }

    private void carryOut(int kind, int a, int b) {
        switch (kind) {
            case PUT:
                putKey(a, b);
                break;
            case TAKE:
                takeKey(a);
                break;
            case DROP:
                dropKeys(a, b);
                break;
            default:
                turnMode(a);
                break;
        }
    }

    private int turnMode(int n) {
        int was = row.mode;
        row.mode = n;
        return was;
    }

    private int putKey(int k, int v) {
        int found = row.cellOf(k);
        if (found == NONE) {
            return spacer.come(row, k, v);
        }
        int was = row.valueIn(found);
        row.fill(found, k, v);
        return was + REPLACED;
    }

    private int takeKey(int k) {
        return spacer.go(row, row.cellOf(k));
    }

    private int dropKeys(int a, int b) {
        int first = row.keysBelow(a);
        int dropped = row.keysBelow(b + 1) - first;
        for (int n = 0; n < dropped; n++) {
            // The next one takes the number of the one that went, wherever a SPACING laid it.
            spacer.go(row, row.cellNumber(first));
        }
        return dropped;
    }

    private int refuse(int code) {
        int which = BAD - code;
        if (within(which, refused.length - 1)) {
            refused[which]++;
        }
        return code;
    }

    private int counted(int what) {
        switch (what) {
            case 0:
                return row.size;
            case 1:
                return row.keysIn(0, row.size);
            case 2:
                return row.mode;
            case 3:
                return row.spacings;
            case 4:
                return row.moves;
            case 5:
                return row.doubled;
            default:
                return row.halved;
        }
    }

    private int toldOf(int what) {
        if (within(what, refused.length - 1)) {
            return refused[what];
        }
        return what == 3 ? textLength : states.held;
    }

    private int faultOfText() {
        reader.begin();
        for (int i = 0; i < textLength && i < text.length; i++) {
            if (reader.take(text[i]) == Reader.WRONG) {
                return i;
            }
        }
        return reader.mayEnd() ? NONE : textLength;
    }

    private static boolean within(int x, int most) {
        return x >= 0 && x <= most;
    }

    private static boolean isSpan(int a, int b) {
        return within(a, MOST_KEY) && within(b, MOST_KEY) && a <= b;
    }

    private static int cellsOf(int level) {
        return SEGMENT_CELLS << level;
    }

    /** All that a STATE holds: the CELLS, MODE, what is counted, and the LOG. */
    private static final class Row {
        private int size;
        private int mode;
        private int spacings;
        private int moves;
        private int doubled;
        private int halved;
        private int logLength;
        private final int[] keys;
        private final int[] values;
        private final int[] logFrom;
        private final int[] logCells;
        private final int[] logMoves;

        private Row() {
            size = LEAST_SIZE;
            keys = new int[MOST_SIZE];
            values = new int[MOST_SIZE];
            logFrom = new int[MOST_LOGGED];
            logCells = new int[MOST_LOGGED];
            logMoves = new int[MOST_LOGGED];
            for (int c = 0; c < MOST_SIZE; c++) {
                keys[c] = NONE;
            }
        }

        private void copyOf(Row other) {
            size = other.size;
            mode = other.mode;
            spacings = other.spacings;
            moves = other.moves;
            doubled = other.doubled;
            halved = other.halved;
            logLength = other.logLength;
            for (int c = 0; c < MOST_SIZE; c++) {
                keys[c] = other.keys[c];
                values[c] = other.values[c];
            }
            for (int i = 0; i < MOST_LOGGED; i++) {
                logFrom[i] = other.logFrom[i];
                logCells[i] = other.logCells[i];
                logMoves[i] = other.logMoves[i];
            }
        }

        private int keyIn(int c) {
            return c >= 0 && c < keys.length ? keys[c] : NONE;
        }

        private int valueIn(int c) {
            return c >= 0 && c < values.length ? values[c] : NONE;
        }

        private void fill(int c, int k, int v) {
            if (c >= 0 && c < keys.length && c < values.length) {
                keys[c] = k;
                values[c] = v;
            }
        }

        private int cellOf(int k) {
            for (int c = 0; c < size; c++) {
                if (keyIn(c) == k) {
                    return c;
                }
            }
            return NONE;
        }

        private int cellNumber(int i) {
            int before = 0;
            for (int c = 0; c < size; c++) {
                if (keyIn(c) == NONE) {
                    continue;
                }
                if (before == i) {
                    return c;
                }
                before++;
            }
            return NONE;
        }

        private int keyNumber(int i) {
            return keyIn(cellNumber(i));
        }

        private int keysBelow(int k) {
            int below = 0;
            for (int c = 0; c < size; c++) {
                if (keyIn(c) != NONE && keyIn(c) < k) {
                    below++;
                }
            }
            return below;
        }

        private int keysIn(int from, int cells) {
            int there = 0;
            for (int c = from; c < from + cells; c++) {
                if (keyIn(c) != NONE) {
                    there++;
                }
            }
            return there;
        }

        private int valuesFrom(int a, int b) {
            int sum = 0;
            for (int c = 0; c < size; c++) {
                if (keyIn(c) >= a && keyIn(c) <= b) {
                    sum += valueIn(c);
                }
            }
            return sum;
        }

        private int cellsRead(int a, int b) {
            int first = keysBelow(a);
            int behind = keysBelow(b + 1);
            return first == behind ? 0 : cellNumber(behind - 1) - cellNumber(first) + 1;
        }

        private int leastKeyOf(int segment) {
            int from = segment * SEGMENT_CELLS;
            for (int c = from; c < from + SEGMENT_CELLS; c++) {
                if (keyIn(c) != NONE) {
                    return keyIn(c);
                }
            }
            return NONE;
        }

        private int top() {
            if (size == LEAST_SIZE) {
                return 2;
            }
            return size == MOST_SIZE ? 4 : 3;
        }

        private int most(int level) {
            return cellsOf(level) * (100 - 25 * level / top()) / 100;
        }

        private int least(int level) {
            return cellsOf(level) * (25 + 5 * level / top()) / 100;
        }

        private int logged(int i, int what) {
            if (!within(i, logLength - 1) || !within(i, MOST_LOGGED - 1)) {
                return NONE;
            }
            if (what == 0) {
                return logFrom[i];
            }
            return what == 1 ? logCells[i] : logMoves[i];
        }

        private void note(int from, int cells, int moved) {
            for (int i = MOST_LOGGED - 1; i > 0; i--) {
                logFrom[i] = logFrom[i - 1];
                logCells[i] = logCells[i - 1];
                logMoves[i] = logMoves[i - 1];
            }
            logFrom[0] = from;
            logCells[0] = cells;
            logMoves[0] = moved;
            if (logLength < MOST_LOGGED) {
                logLength++;
            }
            spacings++;
            moves += moved;
        }
    }

    /** COMING, GOING and SPACING; its rows hold the KEYS that are in hand between two layings. */
    private static final class Spacer {
        private final int[] keys;
        private final int[] values;
        private final int[] cellsAhead;
        private int held;
        private int newcomer;

        private Spacer() {
            keys = new int[MOST_SIZE];
            values = new int[MOST_SIZE];
            cellsAhead = new int[MOST_SIZE];
        }

        private static boolean hasRoom(Row row, int k) {
            return row.size < MOST_SIZE || levelFor(row, segmentFor(row, k)) != NONE;
        }

        private static int segmentFor(Row row, int k) {
            int below = row.keysBelow(k);
            return below == 0 ? 0 : row.cellNumber(below - 1) / SEGMENT_CELLS;
        }

        private static int levelFor(Row row, int segment) {
            for (int level = 0; level <= row.top(); level++) {
                if (row.keysIn(windowStart(segment, level), cellsOf(level)) + 1 <= row.most(level)) {
                    return level;
                }
            }
            return NONE;
        }

        private static int windowStart(int segment, int level) {
            return (segment >> level) * cellsOf(level);
        }

        private int come(Row row, int k, int v) {
            int segment = segmentFor(row, k);
            int level = levelFor(row, segment);
            if (level == NONE) {
                takeUp(row, 0, row.size);
                row.size = Math.min(2 * row.size, MOST_SIZE);
                row.doubled++;
                takeIn(k, v);
                return layDown(row, 0, row.size);
            }
            int from = windowStart(segment, level);
            takeUp(row, from, cellsOf(level));
            takeIn(k, v);
            return layDown(row, from, cellsOf(level));
        }

        private int go(Row row, int c) {
            int value = row.valueIn(c);
            row.fill(c, NONE, 0);
            int segment = c / SEGMENT_CELLS;
            if (row.keysIn(windowStart(segment, 0), SEGMENT_CELLS) >= row.least(0)) {
                return value;
            }
            for (int level = 1; level <= row.top(); level++) {
                int from = windowStart(segment, level);
                if (row.keysIn(from, cellsOf(level)) >= row.least(level)) {
                    space(row, from, cellsOf(level));
                    return value;
                }
            }
            shrink(row);
            return value;
        }

        private void shrink(Row row) {
            takeUp(row, 0, row.size);
            if (row.size > LEAST_SIZE) {
                row.size /= 2;
                row.halved++;
            }
            layDown(row, 0, row.size);
        }

        private int space(Row row, int from, int cells) {
            takeUp(row, from, cells);
            return layDown(row, from, cells);
        }

        private void takeUp(Row row, int from, int cells) {
            held = 0;
            newcomer = NONE;
            for (int c = from; c < from + cells && held < MOST_SIZE; c++) {
                if (row.keyIn(c) != NONE) {
                    keys[held] = row.keyIn(c);
                    values[held] = row.valueIn(c);
                    cellsAhead[held] = c;
                    held++;
                    row.fill(c, NONE, 0);
                }
            }
        }

        private void takeIn(int k, int v) {
            if (held >= MOST_SIZE) {
                return;
            }
            int place = held;
            while (place > 0 && keys[place - 1] > k) {
                keys[place] = keys[place - 1];
                values[place] = values[place - 1];
                cellsAhead[place] = cellsAhead[place - 1];
                place--;
            }
            keys[place] = k;
            values[place] = v;
            cellsAhead[place] = NONE;
            newcomer = place;
            held++;
        }

        private int layDown(Row row, int from, int cells) {
            boolean leans = row.mode == 1 && newcomer != NONE;
            int gap = leans ? (cells - held) / 2 : 0;
            int moved = 0;
            for (int j = 0; j < held && j < MOST_SIZE; j++) {
                int c = from + j * (cells - gap) / held;
                if (leans && j > newcomer) {
                    c += gap;
                }
                row.fill(c, keys[j], values[j]);
                if (c != cellsAhead[j]) {
                    moved++;
                }
            }
            row.note(from, cells, moved);
            return moved;
        }
    }

    /** The STATES to go back to, oldest first; the one behind them is free for a mark. */
    private static final class States {
        private final Row[] rows;
        private int held;

        private States() {
            rows = new Row[MOST_STATES + 1];
            for (int i = 0; i < rows.length; i++) {
                rows[i] = new Row();
            }
        }

        private void keep(Row row) {
            mark(row);
            keepMark();
        }

        // A mark costs no older STATE until it is kept: does() may still end with nothing done.
        private void mark(Row row) {
            if (within(held, MOST_STATES)) {
                rows[held].copyOf(row);
            }
        }

        private void returnToMark(Row row) {
            if (within(held, MOST_STATES)) {
                row.copyOf(rows[held]);
            }
        }

        private void keepMark() {
            if (held < MOST_STATES) {
                held++;
                return;
            }
            Row oldest = rows[0];
            for (int i = 0; i < MOST_STATES; i++) {
                rows[i] = rows[i + 1];
            }
            rows[MOST_STATES] = oldest;
        }

        private boolean goBack(Row row) {
            if (held == 0) {
                return false;
            }
            held--;
            returnToMark(row);
            return true;
        }
    }

    /** Reads THE TEXT byte by byte; knows what may stand next, and the ORDER just ended. */
    private static final class Reader {
        private static final int WRONG = 0;
        private static final int GOES_ON = 1;
        private static final int ORDER_ENDS = 2;

        private int kind;
        private int first;
        private int second;
        private boolean open;
        private int orders;
        private int numbers;
        private int figures;

        private void begin() {
            open = false;
            orders = 0;
        }

        private boolean mayEnd() {
            return !open && orders > 0;
        }

        private int take(int c) {
            if (c == ' ') {
                figures = 0;
                return GOES_ON;
            }
            if (!open) {
                return takeKind(c);
            }
            if (c >= '0' && c <= '9') {
                return takeFigure(c - '0');
            }
            if (c != ';' || numbers != numbersOf(kind)) {
                return WRONG;
            }
            open = false;
            orders++;
            return ORDER_ENDS;
        }

        private int takeKind(int c) {
            if (numbersOf(c) == 0) {
                return WRONG;
            }
            open = true;
            kind = c;
            first = 0;
            second = 0;
            numbers = 0;
            figures = 0;
            return GOES_ON;
        }

        private int takeFigure(int figure) {
            if (figures == 0) {
                if (numbers == numbersOf(kind)) {
                    return WRONG;
                }
                numbers++;
            }
            if (figures == MOST_FIGURES) {
                return WRONG;
            }
            figures++;
            if (numbers == 1) {
                first = 10 * first + figure;
            } else {
                second = 10 * second + figure;
            }
            return GOES_ON;
        }

        private static int numbersOf(int letter) {
            switch (letter) {
                case PUT:
                case DROP:
                    return 2;
                case TAKE:
                case MODE:
                    return 1;
                default:
                    return 0;
            }
        }
    }
}
