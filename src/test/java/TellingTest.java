/** Promises 7 to 16: what is told. The answers are worked out by hand. */
public final class TellingTest {
    private static final int N = GapRow.NONE;
    private static final int LOW = Integer.MIN_VALUE;
    private static final int HIGH = Integer.MAX_VALUE;

    /** CELLS: 10 20 - 30 | 40 50 60 - | - - - - | - - - - ; VALUES 1 to 6. */
    private static GapRow six() {
        GapRow x = new GapRow();
        for (int k = 1; k <= 6; k++) {
            x.puts(10 * k, k);
        }
        return x;
    }

    private static GapRow ofSize(int size) {
        GapRow x = new GapRow();
        for (int k = 0; x.count(0) < size; k++) {
            x.puts(k, k);
        }
        return x;
    }

    private static void value() {
        GapRow x = six();
        Due.is("value(10)", x.value(10), 1);
        Due.is("value(60)", x.value(60), 6);
        Due.is("value(11)", x.value(11), GapRow.NO);
        Due.is("value(0)", x.value(0), GapRow.NO);
        Due.is("value(999)", x.value(999), GapRow.NO);
        Due.is("told(1)", x.told(1), 3);
        for (int k : new int[] {-1, 1000, LOW, HIGH}) {
            Due.is("value(" + k + ")", x.value(k), GapRow.BAD);
        }
        Due.is("told(0)", x.told(0), 4);
        Due.is("told(4)", x.told(4), 5);
    }

    private static void cell() {
        GapRow x = six();
        Due.is("cell(10)", x.cell(10), 0);
        Due.is("cell(30)", x.cell(30), 3);
        Due.is("cell(60)", x.cell(60), 6);
        Due.is("cell(61)", x.cell(61), N);
        Due.is("cell(0)", x.cell(0), N);
        Due.is("cell(999)", x.cell(999), N);
        Due.is("told(1)", x.told(1), 0);
        for (int k : new int[] {-1, 1000, LOW, HIGH}) {
            Due.is("cell(" + k + ")", x.cell(k), GapRow.BAD);
        }
        Due.is("told(0)", x.told(0), 4);
    }

    private static void at() {
        GapRow x = six();
        Due.cells("six", x, 10, 20, N, 30, 40, 50, 60, N, N, N, N, N, N, N, N, N);
        for (int c : new int[] {-1, 16, 63, LOW, HIGH}) {
            Due.is("at(" + c + ")", x.at(c), GapRow.BAD);
        }
        Due.is("told(0)", x.told(0), 5);
        GapRow y = ofSize(32);
        Due.holds("at(31) is told at 32", y.at(31) >= N);
        Due.is("at(32) at 32", y.at(32), GapRow.BAD);
        GapRow z = ofSize(64);
        Due.holds("at(63) is told at 64", z.at(63) >= N);
        Due.is("at(64) at 64", z.at(64), GapRow.BAD);
    }

    private static void rank() {
        GapRow x = six();
        Due.is("rank(0)", x.rank(0), 0);
        Due.is("rank(10)", x.rank(10), 0);
        Due.is("rank(11)", x.rank(11), 1);
        Due.is("rank(60)", x.rank(60), 5);
        Due.is("rank(1000)", x.rank(1000), 6);
        x.puts(999, 0);
        Due.is("rank(999)", x.rank(999), 6);
        Due.is("rank(1000) with 999", x.rank(1000), 7);
        for (int k : new int[] {-1, 1001, LOW, HIGH}) {
            Due.is("rank(" + k + ")", x.rank(k), GapRow.BAD);
        }
        Due.is("told(0)", x.told(0), 4);
    }

    private static void key() {
        GapRow x = six();
        for (int i = 0; i < 6; i++) {
            Due.is("key(" + i + ")", x.key(i), 10 * i + 10);
        }
        Due.is("key(6)", x.key(6), N);
        Due.is("key(64)", x.key(64), N);
        Due.is("key(HIGH)", x.key(HIGH), N);
        Due.is("told(0)", x.told(0), 0);
        Due.is("key(-1)", x.key(-1), GapRow.BAD);
        Due.is("key(LOW)", x.key(LOW), GapRow.BAD);
        Due.is("told(0) then", x.told(0), 2);
    }

    private static void scan() {
        GapRow x = six();
        Due.is("keys, both ends", x.scan(20, 40, 0), 3);
        Due.is("values", x.scan(20, 40, 1), 9);
        Due.is("read, an empty cell too", x.scan(20, 40, 2), 4);
        Due.is("keys, ends between", x.scan(19, 41, 0), 3);
        Due.is("read, ends between", x.scan(19, 41, 2), 4);
        Due.is("one: keys", x.scan(30, 30, 0), 1);
        Due.is("one: values", x.scan(30, 30, 1), 3);
        Due.is("one: read", x.scan(30, 30, 2), 1);
        Due.is("none: keys", x.scan(21, 29, 0), 0);
        Due.is("none: values", x.scan(21, 29, 1), 0);
        Due.is("none: read", x.scan(21, 29, 2), 0);
        Due.is("all: keys", x.scan(0, 999, 0), 6);
        Due.is("all: values", x.scan(0, 999, 1), 21);
        Due.is("all: read", x.scan(0, 999, 2), 7);
        x.puts(999, 99);
        Due.is("last: values", x.scan(999, 999, 1), 99);
        int[][] bad = {{5, 4, 0}, {-1, 4, 0}, {0, 1000, 0}, {1000, 1000, 1}, {0, 9, -1}, {0, 9, 3},
            {LOW, HIGH, 0}, {0, HIGH, 2}, {LOW, 0, 2}, {0, 9, LOW}, {0, 9, HIGH}};
        for (int[] b : bad) {
            Due.is("scan(" + b[0] + ", " + b[1] + ", " + b[2] + ")", x.scan(b[0], b[1], b[2]), GapRow.BAD);
        }
        Due.is("told(0)", x.told(0), bad.length);
    }

    private static void index() {
        GapRow x = six();
        Due.is("index(0)", x.index(0), 10);
        Due.is("index(1)", x.index(1), 40);
        Due.is("index(2)", x.index(2), N);
        Due.is("index(3)", x.index(3), N);
        x.takes(10);
        Due.is("index(0) when 10 went", x.index(0), 20);
        x.takes(20);
        Due.is("index(0), not in its first cell", x.index(0), 30);
        for (int g : new int[] {-1, 4, LOW, HIGH}) {
            Due.is("index(" + g + ")", x.index(g), GapRow.BAD);
        }
        Due.is("told(0)", x.told(0), 4);
        GapRow y = ofSize(64);
        Due.holds("index(15) is told at 64", y.index(15) >= N);
        Due.is("index(16) at 64", y.index(16), GapRow.BAD);
    }

    private static void limits(int size, int[] most, int[] least) {
        GapRow x = ofSize(size);
        for (int i = 0; i < most.length; i++) {
            int windows = size / (4 << i);
            String level = "size " + size + ", level " + i;
            Due.is(level + ": most", x.window(i, windows - 1, 1), most[i]);
            Due.is(level + ": least", x.window(i, 0, 2), least[i]);
            Due.is(level + ": too far", x.window(i, windows, 0), GapRow.BAD);
            int keys = 0;
            for (int j = 0; j < windows; j++) {
                keys += x.window(i, j, 0);
            }
            Due.is(level + ": keys of all windows", keys, x.count(1));
        }
        Due.is("size " + size + ": level too high", x.window(most.length, 0, 0), GapRow.BAD);
    }

    private static void window() {
        limits(16, new int[] {4, 7, 12}, new int[] {1, 2, 4});
        limits(32, new int[] {4, 7, 13, 24}, new int[] {1, 2, 4, 9});
        limits(64, new int[] {4, 7, 14, 26, 48}, new int[] {1, 2, 4, 8, 19});
        GapRow x = six();
        Due.is("window(0, 0, 0)", x.window(0, 0, 0), 3);
        Due.is("window(0, 1, 0)", x.window(0, 1, 0), 3);
        Due.is("window(0, 2, 0)", x.window(0, 2, 0), 0);
        Due.is("window(1, 0, 0)", x.window(1, 0, 0), 6);
        Due.is("window(1, 1, 0)", x.window(1, 1, 0), 0);
        Due.is("window(2, 0, 0)", x.window(2, 0, 0), 6);
        int[][] bad = {{-1, 0, 0}, {3, 0, 0}, {0, -1, 0}, {0, 4, 0}, {1, 2, 0}, {2, 1, 0}, {0, 0, -1}, {0, 0, 3},
            {32, 0, 0}, {LOW, 0, 0}, {HIGH, 0, 0}, {0, LOW, 0}, {0, HIGH, 0}, {0, 0, LOW}, {0, 0, HIGH}};
        for (int[] b : bad) {
            Due.is("window(" + b[0] + ", " + b[1] + ", " + b[2] + ")", x.window(b[0], b[1], b[2]), GapRow.BAD);
        }
        Due.is("told(0)", x.told(0), bad.length);
    }

    private static void count() {
        GapRow x = six();
        // MOVES: 1, 1, 2, 1, 3, 2.
        int[] due = {16, 6, 0, 6, 10, 0, 0};
        for (int what = 0; what < due.length; what++) {
            Due.is("count(" + what + ")", x.count(what), due[what]);
        }
        x.mode(1);
        Due.is("count(2)", x.count(2), 1);
        for (int what : new int[] {-1, 7, LOW, HIGH}) {
            Due.is("count(" + what + ")", x.count(what), GapRow.BAD);
        }
        Due.is("told(0)", x.told(0), 4);
        GapRow y = ofSize(64);
        Due.is("count(5)", y.count(5), 2);
        y.drops(0, 999);
        Due.is("count(6)", y.count(6), 2);
        Due.is("count(5) stays", y.count(5), 2);
        Due.is("count(1)", y.count(1), 0);
    }

    private static void log() {
        GapRow x = six();
        int[][] due = {{4, 4, 2}, {0, 8, 3}, {0, 4, 1}, {0, 4, 2}, {0, 4, 1}, {0, 4, 1}};
        for (int i = 0; i < due.length; i++) {
            for (int what = 0; what <= 2; what++) {
                Due.is("log(" + i + ", " + what + ")", x.log(i, what), due[i][what]);
            }
        }
        Due.is("log(6, 0)", x.log(6, 0), N);
        for (int n = 0; n < 3; n++) {
            x.spaces();
        }
        Due.is("log(7, 2): the second is the oldest of 8 kept", x.log(7, 2), 1);
        Due.is("log(5, 1)", x.log(5, 1), 4);
        Due.is("log(4, 1)", x.log(4, 1), 8);
        Due.is("log(8, 0)", x.log(8, 0), N);
        Due.is("log(HIGH, 0)", x.log(HIGH, 0), N);
        Due.is("told(0)", x.told(0), 0);
        int[][] bad = {{-1, 0}, {LOW, 0}, {0, -1}, {0, 3}, {0, LOW}, {0, HIGH}, {HIGH, 3}};
        for (int[] b : bad) {
            Due.is("log(" + b[0] + ", " + b[1] + ")", x.log(b[0], b[1]), GapRow.BAD);
        }
        Due.is("told(0) then", x.told(0), bad.length);
    }

    public static void main(String[] args) {
        value();
        cell();
        at();
        rank();
        key();
        scan();
        index();
        window();
        count();
        log();
        Due.end();
    }
}
