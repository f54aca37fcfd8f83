/** Terms: THE ROW, its SEGMENTS and WINDOWS, and how dense they may be. */
final class EdgesOfRow {
    private static final int N = GapRow.NONE;
    private static final int BAD = GapRow.BAD;

    private EdgesOfRow() {
    }

    static void all() {
        calls512();
        sizes();
        numbersOfKeysAndValues();
        keysRise();
        segments();
        top();
        windows();
        most();
        least();
    }

    private static void calls512() {
        Doc.says("An object is used for at most 512 calls after it has been made; what later calls answer is free.");
        GapRow x = new GapRow();
        for (int n = 1; n <= 511; n++) {
            x.at(-n);
        }
        Due.is("call 512", x.told(0), 511);
        GapRow y = new GapRow();
        for (int n = 0; n < 511; n++) {
            y.spaces();
        }
        Due.is("call 512", y.count(3), 511);
    }

    private static void ends(GapRow x, int size) {
        Due.is("count(0)", x.count(0), size);
        Due.holds("the last CELL of " + size, x.at(size - 1) >= N);
        Due.is("behind the last CELL of " + size, x.at(size), BAD);
        Due.is("ahead of the first CELL", x.at(-1), BAD);
    }

    private static void sizes() {
        Doc.says("THE ROW has SIZE CELLS 0 on (16, 32 or 64; 16 at first), each empty or with a KEY (0 ..");
        GapRow x = new GapRow();
        ends(x, 16);
        int[] grown = new int[3];
        for (int k = 0; k < 48; k++) {
            x.puts(k, 0);
            grown[Integer.numberOfTrailingZeros(x.count(0)) - 4]++;
        }
        Due.holds("16, 32, 64 in turn", grown[0] > 0 && grown[1] > 0 && grown[2] > 0);
        ends(x, 64);
        for (int k = 0; k < 48; k++) {
            x.takes(k);
            Due.holds("16, 32 or 64", x.count(0) == 16 || x.count(0) == 32 || x.count(0) == 64);
        }
        ends(x, 16);
        ends(Rows.threes(32), 32);
    }

    private static void numbersOfKeysAndValues() {
        Doc.says("999) and its VALUE (0 .. 99);");
        GapRow x = new GapRow();
        Due.is("puts(0, 0)", x.puts(0, 0), 1);
        Due.is("puts(999, 99)", x.puts(999, 99), 1);
        Due.is("value(0)", x.value(0), 0);
        Due.is("value(999)", x.value(999), 99);
        Due.is("puts(-1, 0)", x.puts(-1, 0), BAD);
        Due.is("puts(1000, 0)", x.puts(1000, 0), BAD);
        Due.is("puts(5, -1)", x.puts(5, -1), BAD);
        Due.is("puts(5, 100)", x.puts(5, 100), BAD);
        Due.is("count(1)", x.count(1), 2);
    }

    private static void keysRise() {
        Doc.says("KEYS rise along THE ROW, none is there twice.");
        GapRow x = new GapRow();
        for (int n = 0; n < 30; n++) {
            x.puts(997 * (n + 1) % 1000, 0);
        }
        Due.is("30 KEYS", x.count(1), 30);
        for (int n = 0; n < 30; n++) {
            Due.is("one that is there", x.puts(997 * (n + 1) % 1000, 1), 100);
        }
        Due.is("30 KEYS yet", x.count(1), 30);
        int last = N;
        int found = 0;
        for (int k : Rows.cells(x)) {
            if (k != N) {
                Due.holds(k + " behind " + last, k > last);
                last = k;
                found++;
            }
        }
        Due.is("KEYS in CELLS", found, 30);
    }

    private static void segments() {
        Doc.says("SEGMENTS: 4 CELLS each, from CELL 0 on.");
        GapRow x = Rows.shaped(4, 1, 3, 4);
        Due.cells("shape", x, 0, 10, 20, 25, 30, N, N, N, 60, 70, 80, N, 90, 100, 110, 115);
        x.drops(0, 20);
        Due.is("CELL 3 is in SEGMENT 0", x.index(0), 25);
        Due.is("CELL 4 is in SEGMENT 1", x.index(1), 30);
        x.drops(60, 70);
        Due.is("CELL 10 is in SEGMENT 2", x.index(2), 80);
        x.drops(90, 110);
        Due.is("CELL 15 is in SEGMENT 3", x.index(3), 115);
        Due.is("no SEGMENT 4", x.index(4), BAD);
    }

    private static void top() {
        Doc.says("TOP: 2, 3, 4 by SIZE 16, 32, 64.");
        for (int top = 2; top <= 4; top++) {
            int size = 4 << top;
            GapRow x = Rows.threes(size);
            Due.is("KEYS of LEVEL TOP at " + size, x.window(top, 0, 0), 3 * size / 4);
            Due.is("a LEVEL above TOP at " + size, x.window(top + 1, 0, 0), BAD);
        }
    }

    private static void windows() {
        Doc.says("WINDOWS of LEVEL i (0 .. TOP): 4 times 2 to the i CELLS each, from CELL 0 on "
            + "(LEVEL 0: SEGMENTS; LEVEL TOP: THE ROW).");
        windowsOf(1, 2, 3, 4);
        windowsOf(4, 1, 2, 1, 3, 3, 1, 2);
        windowsOf(1, 2, 3, 4, 2, 1, 4, 3, 3, 3, 1, 1, 4, 2, 2, 1);
    }

    private static void windowsOf(int... shape) {
        GapRow x = Rows.shaped(shape);
        int level = 0;
        for (int segments = 1; segments <= shape.length; segments *= 2) {
            for (int j = 0; j < shape.length / segments; j++) {
                int keys = 0;
                for (int g = j * segments; g < (j + 1) * segments; g++) {
                    keys += shape[g];
                }
                Due.is("window(" + level + ", " + j + ", 0)", x.window(level, j, 0), keys);
            }
            int behind = shape.length / segments;
            Due.is("window(" + level + ", " + behind + ", 0)", x.window(level, behind, 0), BAD);
            level++;
        }
    }

    private static void limits(int size, int what, int... due) {
        GapRow x = Rows.threes(size);
        for (int i = 0; i < due.length; i++) {
            int last = size / (4 << i) - 1;
            Due.is(size + ": window(" + i + ", 0, " + what + ")", x.window(i, 0, what), due[i]);
            Due.is(size + ": window(" + i + ", " + last + ", " + what + ")", x.window(i, last, what), due[i]);
        }
    }

    private static void most() {
        Doc.says("MOST of a WINDOW with c CELLS, LEVEL i: c times (100 - (25 times i) / TOP) / 100, each / cut;");
        limits(16, 1, 4, 7, 12);
        limits(32, 1, 4, 7, 13, 24);
        limits(64, 1, 4, 7, 14, 26, 48);
    }

    private static void least() {
        Doc.says("LEAST: c times (25 + (5 times i) / TOP) / 100, likewise.");
        limits(16, 2, 1, 2, 4);
        limits(32, 2, 1, 2, 4, 9);
        limits(64, 2, 1, 2, 4, 8, 19);
    }
}
