/** Promises 7 to 16, with INDEX, RANK, SCAN and LOG. The answers are worked out by hand. */
final class EdgesOfTelling {
    private static final int N = GapRow.NONE;
    private static final int BAD = GapRow.BAD;
    private static final int LOW = Integer.MIN_VALUE;
    private static final int HIGH = Integer.MAX_VALUE;

    private EdgesOfTelling() {
    }

    static void all() {
        indexOfSegments();
        rankOfNumbers();
        scanOfKeys();
        readCells();
        lastEight();
        value();
        cell();
        at();
        rank();
        key();
        scan();
        index();
        window();
        count();
        log();
    }

    /** KEYS 0 and 999, VALUES 0 and 99, in CELLS 0 and 2. */
    private static GapRow ends() {
        GapRow x = new GapRow();
        x.puts(0, 0);
        x.puts(999, 99);
        return x;
    }

    private static void indexOfSegments() {
        Doc.says("======== 2 INDEX: of each SEGMENT its least KEY; NONE of an empty one.");
        GapRow x = new GapRow();
        for (int g = 0; g < 4; g++) {
            Due.is("no KEYS: index(" + g + ")", x.index(g), N);
        }
        x.puts(0, 0);
        Due.is("KEY 0 is not NONE", x.index(0), 0);
        x.puts(5, 0);
        x.spaces();
        Due.is("an empty one between", x.index(1), N);
        Due.is("one behind it", x.index(2), 5);
        Due.is("an empty one at the end", x.index(3), N);
        GapRow y = Rows.shaped(4, 2, 3, 3);
        Due.is("a full one", y.index(0), 0);
        y.takes(30);
        Due.is("its first CELL is empty", y.index(1), 40);
    }

    private static void rankOfNumbers() {
        Doc.says("RANK of a number: how many KEYS are below it.");
        GapRow x = ends();
        Due.is("rank(0), which is there", x.rank(0), 0);
        Due.is("rank(1)", x.rank(1), 1);
        Due.is("rank(999), which is there", x.rank(999), 1);
        Due.is("rank(1000)", x.rank(1000), 2);
        Due.is("no KEYS", new GapRow().rank(1000), 0);
    }

    private static void scanOfKeys() {
        Doc.says("A SCAN from a to b: KEYS a to b;");
        GapRow x = Rows.shaped(3, 3, 3, 3);
        Due.is("both ends are there", x.scan(10, 40, 0), 4);
        Due.is("both ends are just outside", x.scan(9, 41, 0), 4);
        Due.is("both ends are just inside", x.scan(11, 39, 0), 2);
        Due.is("VALUES, both ends", x.scan(10, 40, 1), 2 + 3 + 1 + 2);
        Due.is("VALUES, just inside", x.scan(11, 39, 1), 3 + 1);
        Due.is("from the first CELL on", x.scan(0, 10, 1), 1 + 2);
        Due.is("to the last KEY", x.scan(100, 110, 1), 2 + 3);
    }

    private static void readCells() {
        Doc.says("READ: CELLS from that of the first to that of the last of them, empty ones too (none: 0).");
        GapRow x = Rows.shaped(3, 1, 3, 3);
        Due.is("one", x.scan(10, 10, 2), 1);
        Due.is("side by side", x.scan(10, 20, 2), 2);
        Due.is("an empty one between", x.scan(20, 30, 2), 3);
        Due.is("empty ones ahead and behind are not read", x.scan(21, 59, 2), 1);
        Due.is("none between", x.scan(31, 59, 2), 0);
        Due.is("no KEYS", new GapRow().scan(0, 999, 2), 0);
        Due.is("none behind", x.scan(111, 999, 2), 0);
        Due.is("all", x.scan(0, 999, 2), 15);
        GapRow y = Rows.shaped(4, 4, 4, 4, 4, 4, 4, 4, 4, 4, 4, 4, 4, 4, 4, 4);
        Due.is("all of a full row", y.scan(0, 999, 2), 64);
    }

    private static void lastEight() {
        Doc.says("LOG: of the last 8 SPACINGS, as they came, the first CELL of the WINDOW, its CELLS, its MOVES.");
        GapRow x = new GapRow();
        x.puts(10, 0);
        Due.is("one is kept", x.log(1, 0), N);
        for (int n = 2; n <= 8; n++) {
            x.spaces();
        }
        Due.is("the first is the eighth", x.log(7, 1), 4);
        Due.is("its MOVES", x.log(7, 2), 1);
        Due.is("no ninth", x.log(8, 0), N);
        x.puts(20, 0);
        Due.is("the latest", x.log(0, 1), 4);
        Due.is("the first is lost", x.log(7, 1), 16);
        Due.is("no ninth then", x.log(8, 0), N);
        x.puts(30, 0);
        x.takes(30);
        Due.latest("one that goes by no SPACING leaves none", x, 0, 4, 2);
        GapRow y = Rows.shaped(3, 3, 3, 1);
        y.puts(91, 0);
        Due.latest("a WINDOW not at CELL 0", y, 12, 4, 1);
        y.puts(25, 0);
        y.puts(55, 0);
        int[][] due = {{4, 4, 1}, {0, 4, 1}, {12, 4, 1}};
        for (int i = 0; i < due.length; i++) {
            for (int what = 0; what <= 2; what++) {
                Due.is("as they came: log(" + i + ", " + what + ")", y.log(i, what), due[i][what]);
            }
        }
    }

    private static void value() {
        Doc.says("`int value(int k)`: VALUE of KEY k. BAD; NO: it is not there.");
        GapRow x = ends();
        Due.is("value(0)", x.value(0), 0);
        Due.is("value(999)", x.value(999), 99);
        Due.is("value(1)", x.value(1), GapRow.NO);
        Due.is("value(998)", x.value(998), GapRow.NO);
        Due.is("told(1)", x.told(1), 2);
        for (int k : new int[] {-1, 1000, LOW, HIGH}) {
            Due.is("value(" + k + ")", x.value(k), BAD);
        }
        Due.is("told(0)", x.told(0), 4);
        x.takes(0);
        Due.is("one that went", x.value(0), GapRow.NO);
        Due.is("no KEYS", new GapRow().value(0), GapRow.NO);
    }

    private static void cell() {
        Doc.says("`int cell(int k)`: CELL of KEY k; NONE: it is not there. BAD.");
        GapRow x = ends();
        Due.is("cell(0)", x.cell(0), 0);
        Due.is("cell(999)", x.cell(999), 2);
        Due.is("cell(1)", x.cell(1), N);
        Due.is("cell(998)", x.cell(998), N);
        Due.is("no refusal", x.told(1), 0);
        for (int k : new int[] {-1, 1000, LOW, HIGH}) {
            Due.is("cell(" + k + ")", x.cell(k), BAD);
        }
        Due.is("told(0)", x.told(0), 4);
        x.takes(0);
        Due.is("one that went", x.cell(0), N);
        GapRow y = Rows.shaped(4, 4, 4, 4, 4, 4, 4, 4, 4, 4, 4, 4, 4, 4, 4, 4);
        Due.is("in the last CELL", y.cell(475), 63);
    }

    private static void at() {
        Doc.says("`int at(int cell)`: KEY in a CELL; NONE: it is empty. BAD.");
        GapRow x = ends();
        Due.is("KEY 0", x.at(0), 0);
        Due.is("an empty one", x.at(1), N);
        Due.is("KEY 999", x.at(2), 999);
        Due.is("the last CELL", x.at(15), N);
        for (int c : new int[] {-1, 16, 31, 63, 64, LOW, HIGH}) {
            Due.is("at(" + c + ")", x.at(c), BAD);
        }
        Due.is("told(0)", x.told(0), 7);
        GapRow y = Rows.shaped(4, 3, 3, 2);
        y.puts(5, 0);
        Due.is("at(31) when SIZE doubled", y.at(31), N);
        Due.is("at(32)", y.at(32), BAD);
        y.back();
        Due.is("at(16) when it is back", y.at(16), BAD);
        GapRow z = Rows.shaped(1, 1, 1, 1, 2, 1, 1, 1);
        z.takes(0);
        Due.is("at(16) when SIZE is halved", z.at(16), BAD);
        Due.is("at(15)", z.at(15), N);
    }

    private static void rank() {
        Doc.says("`int rank(int k)`: RANK of k (0 .. 1000). BAD.");
        GapRow x = ends();
        Due.is("rank(0)", x.rank(0), 0);
        Due.is("rank(1000)", x.rank(1000), 2);
        for (int k : new int[] {-1, 1001, LOW, HIGH}) {
            Due.is("rank(" + k + ")", x.rank(k), BAD);
        }
        Due.is("told(0)", x.told(0), 4);
    }

    private static void key() {
        Doc.says("`int key(int i)`: The i-th KEY (0 on); NONE: not so many. BAD: i below 0.");
        GapRow x = ends();
        Due.is("key(0)", x.key(0), 0);
        Due.is("key(1), behind an empty CELL", x.key(1), 999);
        Due.is("key(2)", x.key(2), N);
        Due.is("key(64)", x.key(64), N);
        Due.is("key(HIGH)", x.key(HIGH), N);
        Due.is("no refusals", x.told(0), 0);
        Due.is("key(-1)", x.key(-1), BAD);
        Due.is("key(LOW)", x.key(LOW), BAD);
        Due.is("told(0)", x.told(0), 2);
        Due.is("no KEYS", new GapRow().key(0), N);
        GapRow y = Rows.shaped(4, 4, 4, 4, 4, 4, 4, 4, 4, 4, 4, 4, 4, 4, 4, 4);
        Due.is("the last of 64", y.key(63), 475);
        Due.is("behind the last of 64", y.key(64), N);
    }

    private static void scan() {
        Doc.says("`int scan(int a, int b, int what)`: Of a SCAN from a to b: how many KEYS (what 0), "
            + "their VALUES together (1), READ (2). BAD: b below a, too.");
        GapRow x = ends();
        int[][] due = {{0, 999, 2, 99, 3}, {0, 0, 1, 0, 1}, {999, 999, 1, 99, 1}, {1, 998, 0, 0, 0}, {5, 5, 0, 0, 0},
            {0, 998, 1, 0, 1}, {1, 999, 1, 99, 1}};
        for (int[] d : due) {
            for (int what = 0; what <= 2; what++) {
                Due.is("scan(" + d[0] + ", " + d[1] + ", " + what + ")", x.scan(d[0], d[1], what), d[2 + what]);
            }
        }
        int[][] bad = {{5, 4, 0}, {999, 0, 1}, {-1, 5, 2}, {5, 1000, 0}, {-1, -1, 0}, {1000, 1000, 0}, {5, 5, -1},
            {5, 5, 3}, {LOW, 0, 0}, {0, HIGH, 0}, {HIGH, LOW, 0}, {0, 0, LOW}, {0, 0, HIGH}, {5, 4, 3}};
        for (int[] b : bad) {
            Due.is("scan(" + b[0] + ", " + b[1] + ", " + b[2] + ")", x.scan(b[0], b[1], b[2]), BAD);
        }
        Due.is("told(0)", x.told(0), bad.length);
    }

    private static void index() {
        Doc.says("`int index(int g)`: INDEX of SEGMENT g. BAD.");
        for (int size = 16; size <= 64; size *= 2) {
            GapRow x = Rows.threes(size);
            int last = size / 4 - 1;
            Due.is("the first at " + size, x.index(0), 0);
            Due.is("the last at " + size, x.index(last), Rows.key(last, 0));
            for (int g : new int[] {-1, last + 1, LOW, HIGH}) {
                Due.is("index(" + g + ") at " + size, x.index(g), BAD);
            }
            Due.is("told(0)", x.told(0), 4);
        }
    }

    private static void window() {
        Doc.says("`int window(int i, int j, int what)`: Of WINDOW j (0 on) of LEVEL i: "
            + "KEYS (what 0), MOST (1), LEAST (2). BAD.");
        GapRow x = Rows.shaped(4, 3, 2, 1);
        int[][] due = {{0, 0, 4, 4, 1}, {0, 3, 1, 4, 1}, {1, 0, 7, 7, 2}, {1, 1, 3, 7, 2}, {2, 0, 10, 12, 4}};
        for (int[] d : due) {
            for (int what = 0; what <= 2; what++) {
                Due.is("window(" + d[0] + ", " + d[1] + ", " + what + ")", x.window(d[0], d[1], what), d[2 + what]);
            }
        }
        int[][] bad = {{-1, 0, 0}, {3, 0, 0}, {0, -1, 0}, {0, 4, 0}, {1, 2, 1}, {2, 1, 2}, {0, 0, -1}, {0, 0, 3},
            {LOW, 0, 0}, {HIGH, 0, 0}, {31, 0, 0}, {32, 0, 0}, {0, LOW, 0}, {0, HIGH, 0}, {0, 0, LOW}, {0, 0, HIGH},
            {3, 4, 3}};
        for (int[] b : bad) {
            Due.is("window(" + b[0] + ", " + b[1] + ", " + b[2] + ")", x.window(b[0], b[1], b[2]), BAD);
        }
        Due.is("told(0)", x.told(0), bad.length);
        GapRow none = new GapRow();
        Due.is("no KEYS", none.window(2, 0, 0), 0);
    }

    private static void count() {
        Doc.says("`int count(int what)`: SIZE (what 0), KEYS (1), MODE (2), SPACINGS (3) and MOVES (4) of all so far, "
            + "how often SIZE doubled (5), was halved (6). BAD.");
        GapRow x = ends();
        x.mode(1);
        int[] due = {16, 2, 1, 2, 2, 0, 0};
        for (int what = 0; what <= 6; what++) {
            Due.is("count(" + what + ")", x.count(what), due[what]);
        }
        for (int what : new int[] {-1, 7, LOW, HIGH}) {
            Due.is("count(" + what + ")", x.count(what), BAD);
        }
        Due.is("told(0)", x.told(0), 4);
        // More SPACINGS than the LOG keeps, each with its MOVES.
        GapRow y = new GapRow();
        for (int n = 1; n <= 10; n++) {
            y.puts(5, 0);
            y.takes(5);
        }
        Due.is("SPACINGS of all", y.count(3), 20);
        Due.is("MOVES of all", y.count(4), 10);
        GapRow z = Rows.threes(64);
        Due.is("doubled", z.count(5), 2);
        z.drops(0, 999);
        Due.is("halved", z.count(6), 2);
        for (int k = 0; k < 48; k++) {
            z.puts(k, 0);
        }
        Due.is("doubled of all so far", z.count(5), 4);
        Due.is("halved of all so far", z.count(6), 2);
    }

    private static void log() {
        Doc.says("`int log(int i, int what)`: LOG: of the i-th SPACING, the latest 0: the first CELL (what 0), "
            + "CELLS (1), MOVES (2); NONE: not so many are kept. BAD: i below 0, too.");
        GapRow x = new GapRow();
        for (int what = 0; what <= 2; what++) {
            Due.is("none is kept", x.log(0, what), N);
        }
        x.puts(10, 0);
        x.spaces();
        Due.latest("the latest", x, 0, 16, 0);
        Due.is("the one ahead", x.log(1, 1), 4);
        Due.is("log(2, 0)", x.log(2, 0), N);
        Due.is("log(7, 2)", x.log(7, 2), N);
        Due.is("log(HIGH, 1)", x.log(HIGH, 1), N);
        Due.is("no refusals", x.told(0), 0);
        int[][] bad = {{-1, 0}, {LOW, 0}, {0, -1}, {0, 3}, {0, LOW}, {0, HIGH}, {2, 3}, {HIGH, -1}, {-1, 3}};
        for (int[] b : bad) {
            Due.is("log(" + b[0] + ", " + b[1] + ")", x.log(b[0], b[1]), BAD);
        }
        Due.is("told(0)", x.told(0), bad.length);
    }
}
