/** Promises 1 to 6. The answers are worked out by hand. */
final class EdgesOfRecords {
    private static final int N = GapRow.NONE;
    private static final int BAD = GapRow.BAD;
    private static final int LOW = Integer.MIN_VALUE;
    private static final int HIGH = Integer.MAX_VALUE;

    private EdgesOfRecords() {
    }

    static void all() {
        newObject();
        putsOneThatIsThere();
        putsOneThatComes();
        takes();
        drops();
        dropsRising();
        mode();
        spaces();
    }

    private static void newObject() {
        Doc.says("`GapRow()`: As told; no KEYS.");
        GapRow x = new GapRow();
        x.puts(5, 5);
        x.mode(1);
        x.type('p');
        x.at(-1);
        GapRow y = new GapRow();
        Due.is("count(0)", y.count(0), 16);
        for (int what = 1; what <= 6; what++) {
            Due.is("count(" + what + ")", y.count(what), 0);
        }
        for (int what = 0; what <= 4; what++) {
            Due.is("told(" + what + ")", y.told(what), 0);
        }
        for (int c = 0; c < 16; c++) {
            Due.is("at(" + c + ")", y.at(c), N);
        }
        Due.is("key(0)", y.key(0), N);
        Due.is("log(0, 0)", y.log(0, 0), N);
        Due.is("the other one is not touched", x.count(1), 1);
    }

    private static void putsOneThatIsThere() {
        Doc.says("`int puts(int k, int v)`: KEY k with VALUE v: if it is there, its VALUE becomes v: "
            + "what it was, and 100;");
        GapRow x = new GapRow();
        x.puts(0, 0);
        x.puts(999, 99);
        int spacings = x.count(3);
        int moves = x.count(4);
        Due.is("it was 0", x.puts(0, 99), 100);
        Due.is("it was 99", x.puts(999, 0), 199);
        Due.is("value(0)", x.value(0), 99);
        Due.is("value(999)", x.value(999), 0);
        Due.is("the same VALUE", x.puts(0, 99), 199);
        Due.is("SPACINGS", x.count(3), spacings);
        Due.is("MOVES", x.count(4), moves);
        Due.is("KEYS", x.count(1), 2);
        Due.cells("CELLS", x, 0, N, 999, N);
        Due.is("STATES", x.told(4), 5);
        GapRow full = Rows.shaped(4, 4, 4, 4, 4, 4, 4, 4, 4, 4, 4, 4, 4, 4, 4, 4);
        Due.is("no room is needed", full.puts(0, 5), 101);
        Due.is("told(2)", full.told(2), 0);
    }

    private static void putsOneThatComes() {
        Doc.says("else it COMES: MOVES of the SPACING. S. BAD; FULL.");
        GapRow x = new GapRow();
        Due.is("the first", x.puts(500, 7), 1);
        Due.is("it and one that moves", x.puts(400, 8), 2);
        Due.is("value(400)", x.value(400), 8);
        Due.is("STATES", x.told(4), 2);
        int[][] bad = {{-1, 0}, {1000, 0}, {LOW, 0}, {HIGH, 0}, {5, -1}, {5, 100}, {5, LOW}, {5, HIGH},
            {400, -1}, {400, 100}, {-1, 100}};
        for (int[] b : bad) {
            Due.is("puts(" + b[0] + ", " + b[1] + ")", x.puts(b[0], b[1]), BAD);
        }
        Due.is("told(0)", x.told(0), bad.length);
        Due.is("STATES then", x.told(4), 2);
        Due.is("value(400) then", x.value(400), 8);
        GapRow full = Rows.shaped(4, 4, 4, 4, 4, 4, 4, 4, 4, 4, 4, 4, 4, 4, 4, 4);
        Due.is("behind all", full.puts(999, 0), GapRow.FULL);
        Due.is("between", full.puts(226, 0), GapRow.FULL);
        Due.is("told(2)", full.told(2), 2);
        Due.is("64 KEYS", full.count(1), 64);
        full.takes(220);
        Due.is("with one less in its SEGMENT", full.puts(226, 0), 1);
        Due.is("puts(227, 0)", full.puts(227, 0), GapRow.FULL);
    }

    private static void takes() {
        Doc.says("`int takes(int k)`: KEY k GOES: its VALUE. S. BAD; NO: it is not there.");
        GapRow x = new GapRow();
        Due.is("no KEYS", x.takes(0), GapRow.NO);
        x.puts(0, 0);
        x.puts(999, 99);
        Due.is("beside one that is there", x.takes(1), GapRow.NO);
        Due.is("beside the other", x.takes(998), GapRow.NO);
        Due.is("STATES", x.told(4), 2);
        Due.is("VALUE 0", x.takes(0), 0);
        Due.is("VALUE 99", x.takes(999), 99);
        Due.is("STATES then", x.told(4), 4);
        Due.is("one that went", x.takes(999), GapRow.NO);
        for (int k : new int[] {-1, 1000, LOW, HIGH}) {
            Due.is("takes(" + k + ")", x.takes(k), BAD);
        }
        Due.is("told(0)", x.told(0), 4);
        Due.is("told(1)", x.told(1), 4);
        Due.is("STATES at last", x.told(4), 4);
    }

    private static void drops() {
        Doc.says("`int drops(int a, int b)`: All KEYS from a to b GO, one by one, rising: how many. S. "
            + "BAD: b below a, too.");
        GapRow x = new GapRow();
        Due.is("no KEYS", x.drops(0, 999), 0);
        Due.is("a STATE by it", x.told(4), 1);
        x.puts(0, 0);
        x.puts(500, 0);
        x.puts(999, 0);
        Due.is("between two", x.drops(1, 499), 0);
        Due.is("a is b, there", x.drops(500, 500), 1);
        Due.is("a is b, not there", x.drops(500, 500), 0);
        Due.is("both ends", x.drops(0, 999), 2);
        Due.is("KEYS", x.count(1), 0);
        Due.is("STATES", x.told(4), 5);
        int[][] bad = {{5, 4}, {999, 0}, {-1, 5}, {5, 1000}, {-1, -1}, {1000, 1000}, {LOW, HIGH}, {HIGH, LOW}};
        for (int[] b : bad) {
            Due.is("drops(" + b[0] + ", " + b[1] + ")", x.drops(b[0], b[1]), BAD);
        }
        Due.is("told(0)", x.told(0), bad.length);
        GapRow all = Rows.shaped(4, 4, 4, 4, 4, 4, 4, 4, 4, 4, 4, 4, 4, 4, 4, 4);
        Due.is("64", all.drops(0, 999), 64);
        Due.is("no KEYS are left", all.count(1), 0);
        Due.is("halved", all.count(6), 2);
        Due.is("back()", all.back(), 4);
        Due.is("one STATE for all", all.count(1), 64);
    }

    private static void dropsRising() {
        GapRow x = Rows.shaped(2, 1, 2, 2);
        int spacings = x.count(3);
        Due.is("drops(0, 30)", x.drops(0, 30), 3);
        // 10 lets the row be spaced: 30 at 0, 60 at 3, 70 at 6, 90 at 9, 100 at 12; then 30 goes, 60 is left there.
        // Falling, 30 would let LEVEL 1 be spaced, 10 the row; all at once, the row with 4.
        Due.is("one SPACING", x.count(3), spacings + 1);
        Due.latest("as 10 went", x, 0, 16, 5);
        Due.cells("one by one, rising", x, N, N, N, 60, N, N, 70, N, N, 90, N, N, 100, N, N, N);
    }

    private static void mode() {
        Doc.says("`int mode(int n)`: MODE becomes n (0, 1): what it was. S. BAD.");
        GapRow x = new GapRow();
        Due.is("0 at first, the same", x.mode(0), 0);
        Due.is("mode(1)", x.mode(1), 0);
        Due.is("the same", x.mode(1), 1);
        Due.is("STATES", x.told(4), 3);
        for (int n : new int[] {-1, 2, LOW, HIGH}) {
            Due.is("mode(" + n + ")", x.mode(n), BAD);
        }
        Due.is("told(0)", x.told(0), 4);
        Due.is("STATES then", x.told(4), 3);
        Due.is("MODE stays", x.count(2), 1);
        Due.is("mode(0)", x.mode(0), 1);
        Due.is("no SPACING by it", x.count(3), 0);
    }

    private static void spaces() {
        Doc.says("`int spaces()`: THE ROW is SPACED as one WINDOW, MODE 0 (also at MODE 1): MOVES. S.");
        GapRow x = new GapRow();
        Due.is("no KEYS", x.spaces(), 0);
        Due.is("a SPACING, too", x.count(3), 1);
        Due.is("a STATE by it", x.told(4), 1);
        x.puts(10, 0);
        Due.is("one KEY, in CELL 0", x.spaces(), 0);
        x.puts(20, 0);
        x.mode(1);
        // 20 from 2 to 8, at MODE 1, too.
        Due.is("two KEYS", x.spaces(), 1);
        Due.cells("evenly", x, 10, N, N, N, N, N, N, N, 20, N, N, N, N, N, N, N);
        Due.latest("THE ROW", x, 0, 16, 1);
        Due.is("again", x.spaces(), 0);
        Due.is("MODE stays", x.count(2), 1);
        GapRow y = Rows.shaped(1, 1, 1, 1, 1, 1, 1, 1, 1, 1, 1, 1, 1, 1, 1, 1);
        Due.is("16 in 64", y.spaces(), 0);
        Due.is("SIZE stays, however thin", y.count(0), 64);
        Due.latest("THE ROW of 64", y, 0, 64, 0);
    }
}
