/** Terms: SPACING, COMING and GOING. The answers are worked out by hand. */
final class EdgesOfSpacing {
    private static final int N = GapRow.NONE;

    private EdgesOfSpacing() {
    }

    static void all() {
        inOrder();
        evenly();
        leaningOnlyIfOneComes();
        halfTheGap();
        aboveTheComer();
        moves();
        segmentOfTheKeyBelow();
        mostAtMost();
        doubles();
        fullAtSixtyFour();
        cellIsEmpty();
        fewerThanLeast();
        leastOrMore();
        halves();
        sixteenStays();
    }

    // ---- SPACING

    private static void inOrder() {
        Doc.says("SPACING of a WINDOW from CELL f, c CELLS, of its m KEYS, in order (one that comes among them):");
        GapRow x = new GapRow();
        x.puts(500, 5);
        x.puts(400, 4);
        Due.cells("ahead of all", x, 400, N, 500, N);
        x.puts(450, 4);
        Due.cells("between", x, 400, 450, 500, N);
        x.puts(600, 6);
        Due.cells("behind all", x, 400, 450, 500, 600);
        Due.is("VALUES go along", x.value(500), 5);
        GapRow y = Rows.shaped(2, 2, 2, 2);
        y.puts(35, 0);
        Due.cells("only the WINDOW is spaced", y, 0, 10, N, N, 30, 35, 40, N, 60, 70, N, N, 90, 100, N, N);
    }

    private static void evenly() {
        Doc.says("by MODE 0 (at first) KEY j (0 .. m - 1) goes to CELL f + j times c / m, cut.");
        GapRow x = new GapRow();
        Due.is("no KEYS", x.spaces(), 0);
        Due.latest("no KEYS", x, 0, 16, 0);
        x.puts(10, 0);
        Due.cells("1 in 4", x, 10, N, N, N);
        x.puts(20, 0);
        Due.cells("2 in 4", x, 10, N, 20, N);
        x.puts(30, 0);
        Due.cells("3 in 4", x, 10, 20, 30, N);
        x.puts(40, 0);
        Due.cells("4 in 4", x, 10, 20, 30, 40, N);
        x.puts(50, 0);
        Due.cells("5 in 8", x, 10, 20, N, 30, 40, N, 50, N);
        // f is 8: 7 in 8.
        GapRow y = Rows.shaped(3, 3, 2, 4);
        y.puts(95, 0);
        Due.cells("7 in 8", y, 0, 10, 20, N, 30, 40, 50, N, 60, 70, 90, 95, 100, 110, 115, N);
        // 64 in 64: each SEGMENT is full, and spaces() leaves every KEY in its CELL.
        GapRow z = Rows.shaped(4, 4, 4, 4, 4, 4, 4, 4, 4, 4, 4, 4, 4, 4, 4, 4);
        Due.is("64 in 64", z.spaces(), 0);
        Due.is("at(63)", z.at(63), Rows.key(15, 3));
    }

    private static void leaningOnlyIfOneComes() {
        Doc.says("By MODE 1, if a KEY comes by it, KEY n of them (0 on):");
        GapRow x = new GapRow();
        x.mode(1);
        x.puts(10, 0);
        x.puts(20, 0);
        Due.cells("leaning", x, 10, 20, N, N);
        x.takes(20);
        x.mode(0);
        x.puts(20, 0);
        Due.cells("by MODE 0 again", x, 10, N, 20, N);
        GapRow y = Rows.shaped(1, 2, 3, 3);
        y.mode(1);
        y.takes(0);
        Due.cells("one goes", y, 30, N, N, N, 40, N, N, N);
        y.puts(45, 0);
        // SEGMENT 1 has 40 and 45: x is 1, n is 1: 0, 3 / 2.
        Due.cellsFrom(4, "one comes", y, 40, 45, N, N);
        int spacings = y.count(3);
        y.puts(45, 1);
        Due.is("one that is there comes by no SPACING", y.count(3), spacings);
        y.spaces();
        Due.cells("spaces(): 9 in 16", y, 30, 40, N, 45, N, 60, N, 70, 80, N, 90, N, 100, N, 110, N);
    }

    private static void halfTheGap() {
        Doc.says("x is (c - m) / 2, cut;");
        GapRow x = new GapRow();
        x.mode(1);
        x.puts(10, 0);
        Due.cells("c - m is 3: x is 1", x, 10, N, N, N);
        x.puts(20, 0);
        Due.cells("c - m is 2: x is 1", x, 10, 20, N, N);
        x.puts(15, 0);
        Due.cells("c - m is 1: x is 0", x, 10, 15, 20, N);
        x.puts(17, 0);
        Due.cells("c - m is 0: x is 0", x, 10, 15, 17, 20);
        GapRow y = Rows.shaped(4, 1, 3, 3);
        y.mode(1);
        y.puts(5, 0);
        // 6 in 8: x is 1: j times 7 / 6, and 1 more from 10 on.
        Due.cells("c - m is 2 of 8", y, 0, 5, N, 10, 20, 25, 30, N);
        GapRow z = Rows.shaped(4, 2, 3, 3);
        z.mode(1);
        z.puts(5, 0);
        Due.cells("c - m is 1 of 8", z, 0, 5, 10, 20, 25, 30, 40, N);
    }

    /** 10, 20, 30, 40 fill SEGMENT 0; k comes by MODE 1: 5 in 8, x is 1: 0, 1, 2, 4, 5, and 1 more above k. */
    private static void fifth(int k, int... cells) {
        GapRow x = new GapRow();
        x.mode(1);
        for (int j = 1; j <= 4; j++) {
            x.puts(10 * j, 0);
        }
        x.puts(k, 0);
        Due.cells(k + " comes", x, cells);
    }

    private static void aboveTheComer() {
        Doc.says("KEY j goes to f + j times (c - x) / m, cut, and x more, if j is above n.");
        fifth(5, 5, N, 10, 20, N, 30, 40, N);
        fifth(15, 10, 15, N, 20, N, 30, 40, N);
        fifth(25, 10, 20, 25, N, N, 30, 40, N);
        fifth(35, 10, 20, 30, N, 35, N, 40, N);
        fifth(45, 10, 20, 30, N, 40, 45, N, N);
        // f is 8, 6 in 8: x is 1, n is 2: j times 7 / 6, and 1 more from 100 on.
        GapRow x = Rows.shaped(3, 3, 1, 4);
        x.mode(1);
        x.puts(95, 0);
        Due.cellsFrom(8, "f is 8", x, 60, 90, 95, N, 100, 110, 115, N);
    }

    private static void moves() {
        Doc.says("MOVES of it: how many KEYS are in another CELL then than ahead (one that comes counts, too).");
        GapRow x = Rows.threes(16);
        Due.is("none moves", x.spaces(), 0);
        Due.is("the one that comes alone", x.puts(25, 0), 1);
        Due.is("it and the two behind it", x.puts(35, 0), 3);
        GapRow y = Rows.shaped(1, 2, 3, 3);
        y.takes(0);
        // 30 goes from 4 to 0, 40 from 5 to 4; the one that went is no MOVE.
        Due.latest("one goes", y, 0, 8, 2);
        GapRow z = new GapRow();
        Due.is("the first of all", z.puts(7, 0), 1);
        z.takes(7);
        Due.latest("the last of all goes", z, 0, 16, 0);
        Due.is("in the CELL of the one that went", z.puts(8, 0), 1);
    }

    // ---- COMING

    private static void segmentOfTheKeyBelow() {
        Doc.says("COMING of a KEY: its SEGMENT is that of the greatest KEY below it (SEGMENT 0, if none is);");
        GapRow x = new GapRow();
        x.puts(999, 0);
        Due.latest("no KEYS", x, 0, 4, 1);
        // 25 is in the last CELL of SEGMENT 0, which is full; SEGMENT 1 has room, but is not asked alone.
        GapRow y = Rows.shaped(4, 1, 3, 3);
        y.puts(29, 0);
        Due.is("behind the last CELL of a SEGMENT", y.log(0, 0), 0);
        Due.is("its CELLS", y.log(0, 1), 8);
        GapRow z = Rows.shaped(3, 1, 3, 3);
        z.puts(31, 0);
        Due.latest("behind the first CELL of a SEGMENT", z, 4, 4, 1);
        noneBelow();
        behindEmptySegments();
    }

    private static void noneBelow() {
        GapRow x = new GapRow();
        for (int j = 0; j < 12; j++) {
            x.puts(50 + 10 * j, 0);
        }
        x.spaces();
        x.puts(0, 0);
        Due.latest("none is below", x, 0, 4, 4);
        Due.cells("none is below", x, 0, 50, 60, 70, 80);
    }

    private static void behindEmptySegments() {
        GapRow x = new GapRow();
        x.puts(10, 0);
        x.puts(20, 0);
        x.spaces();
        Due.cells("SEGMENTS 1 and 3 are empty", x, 10, N, N, N, N, N, N, N, 20, N, N, N, N, N, N, N);
        x.puts(19, 0);
        Due.latest("behind 10", x, 0, 4, 1);
        x.puts(21, 0);
        Due.latest("behind 20", x, 8, 4, 1);
    }

    /** The WINDOW that is SPACED by k; the SIZE told is that thereafter. */
    private static void comesBy(GapRow x, int k, int from, int cells, int size) {
        int[] ahead = Rows.cells(x);
        int keys = x.count(1);
        int moved = x.puts(k, 0);
        Due.is("KEYS when " + k + " came", x.count(1), keys + 1);
        Due.is("SIZE when " + k + " came", x.count(0), size);
        Due.is("MOVES when " + k + " came", moved, Rows.moved(ahead, Rows.cells(x)));
        Due.latest(k + " came", x, from, cells, moved);
    }

    private static void mostAtMost() {
        Doc.says("of the WINDOWS that have that SEGMENT, LEVEL 0 on, "
            + "the first that with it has MOST KEYS at most is SPACED.");
        comesBy(Rows.shaped(3, 3, 3, 3), 5, 0, 4, 16);
        comesBy(Rows.shaped(4, 2, 3, 3), 5, 0, 8, 16);
        comesBy(Rows.shaped(3, 3, 2, 4), 95, 8, 8, 16);
        comesBy(Rows.shaped(4, 3, 2, 2), 5, 0, 16, 16);
        comesBy(Rows.shaped(4, 3, 2, 3), 5, 0, 32, 32);
        comesBy(Rows.shaped(3, 2, 3, 4), 95, 0, 32, 32);
        // SIZE 32: LEVEL 2 with 13 of 13 and with 14, LEVEL 3 with 24 of 24 and with 25.
        comesBy(Rows.shaped(4, 3, 3, 2, 3, 3, 3, 3), 5, 0, 16, 32);
        comesBy(Rows.shaped(3, 3, 3, 3, 2, 3, 3, 4), 215, 16, 16, 32);
        comesBy(Rows.shaped(4, 3, 3, 3, 3, 3, 2, 2), 5, 0, 32, 32);
        comesBy(Rows.shaped(4, 3, 3, 3, 3, 3, 3, 2), 5, 0, 64, 64);
        // SIZE 64: LEVEL 2 with 14 of 14, LEVEL 3 with 26 of 26, LEVEL 4 with 48 of 48.
        comesBy(Rows.shaped(4, 3, 3, 3, 3, 3, 3, 3, 3, 3, 3, 3, 3, 3, 3, 3), 5, 0, 16, 64);
        comesBy(Rows.shaped(4, 3, 4, 3, 3, 3, 3, 2, 3, 3, 3, 3, 3, 3, 3, 3), 5, 0, 32, 64);
        comesBy(Rows.shaped(3, 3, 3, 3, 3, 3, 3, 3, 3, 3, 3, 2, 4, 3, 3, 4), 455, 32, 32, 64);
        comesBy(Rows.shaped(4, 3, 4, 3, 3, 3, 3, 3, 3, 3, 3, 3, 3, 2, 2, 2), 5, 0, 64, 64);
    }

    private static void doubles() {
        Doc.says("If none is: SIZE doubles, THE ROW is SPACED as one WINDOW "
            + "(the KEYS' CELLS ahead being as they were);");
        GapRow x = Rows.shaped(4, 3, 3, 2);
        // 13 in 32: 0 alone stays.
        Due.is("puts(5, 0)", x.puts(5, 0), 12);
        Due.is("doubled", x.count(5), 1);
        Due.cells("13 in 32", x, 0, N, 5, N, 10, N, N, 20, N, 25, N, N, 30, N, 40, N,
            N, 50, N, 60, N, N, 70, N, 80, N, N, 90, N, 100, N, N);
        doublesLeaning();
        // From 32 to 64: 25 in 64.
        GapRow z = Rows.shaped(4, 3, 3, 3, 3, 3, 3, 2);
        int[] ahead = Rows.cells(z);
        int moved = z.puts(5, 0);
        Due.is("MOVES from 32 to 64", moved, Rows.moved(ahead, Rows.cells(z)));
        Due.is("doubled again", z.count(5), 2);
        for (int j = 0; j < 25; j++) {
            Due.is("KEY " + j + " of 25 in 64", z.cell(z.key(j)), j * 64 / 25);
        }
    }

    private static void doublesLeaning() {
        // 13 in 32: x is 9: j times 23 / 13; n is 1, so all from 10 on go 9 more.
        GapRow x = Rows.shaped(4, 3, 3, 2);
        x.mode(1);
        Due.is("puts(5, 0) by MODE 1", x.puts(5, 0), 12);
        Due.cells("behind 0", x, 0, 5, N, N, N, N, N, N, N, N, N, N, 10, N, 20, N,
            25, 30, N, 40, N, 50, N, 60, 70, N, 80, N, 90, N, 100, N);
        // n is 12: none is above it. 0, 10, 40 and 60 stay in their CELLS.
        GapRow y = Rows.shaped(2, 3, 3, 4);
        y.mode(1);
        Due.is("puts(116, 0) by MODE 1", y.puts(116, 0), 9);
        Due.cells("behind all", y, 0, 10, N, 30, N, 40, N, 50, 60, N, 70, N, 80, N, 90, 100,
            N, 110, N, 115, N, 116, N, N, N, N, N, N, N, N, N, N);
    }

    private static void fullAtSixtyFour() {
        Doc.says("at SIZE 64: FULL.");
        GapRow x = Rows.shaped(4, 3, 4, 3, 3, 3, 3, 3, 3, 3, 3, 3, 3, 3, 2, 2);
        String ahead = Rows.seen(x);
        Due.is("LEVEL 4 would have 49", x.puts(5, 0), GapRow.FULL);
        Due.is("told(2)", x.told(2), 1);
        Due.holds("nothing else became other", ahead.equals(Rows.seen(x)));
        x.takes(460);
        Due.holds("LEVEL 4 would have 48", x.puts(5, 0) > 0);
        Due.is("its CELLS", x.log(0, 1), 64);
    }

    // ---- GOING

    private static void cellIsEmpty() {
        Doc.says("GOING of a KEY: its CELL is empty then.");
        GapRow x = Rows.threes(16);
        x.takes(10);
        Due.cells("one within", x, 0, N, 20, N, 30, 40, 50, N, 60, 70, 80, N, 90, 100, 110, N);
        x.takes(0);
        x.takes(110);
        Due.cells("the first and the last", x, N, N, 20, N, 30, 40, 50, N, 60, 70, 80, N, 90, 100, N, N);
    }

    private static void fewerThanLeast() {
        Doc.says("If its SEGMENT has fewer than LEAST,");
        GapRow x = Rows.shaped(2, 2, 3, 3);
        int spacings = x.count(3);
        x.takes(0);
        Due.is("1 of LEAST 1: none", x.count(3), spacings);
        Due.cells("as it was", x, N, 10, N, N, 30, 40, N, N);
        x.takes(10);
        Due.is("0 of LEAST 1: one", x.count(3), spacings + 1);
        // Its SEGMENT is asked, not its WINDOW: LEVEL 1 and 2 may be as thin as they like.
        GapRow y = Rows.shaped(2, 1, 1, 1);
        spacings = y.count(3);
        y.takes(10);
        Due.is("1 of LEAST 1 in a thin row", y.count(3), spacings);
    }

    /** The WINDOW that is SPACED when k goes; the SIZE told is that thereafter. */
    private static void goesBy(GapRow x, int k, int from, int cells, int size) {
        int[] ahead = Rows.cells(x);
        int keys = x.count(1);
        int halved = x.count(6) + (size < x.count(0) ? 1 : 0);
        x.takes(k);
        int[] then = Rows.cells(x);
        Due.is("KEYS when " + k + " went", x.count(1), keys - 1);
        Due.is("SIZE when " + k + " went", x.count(0), size);
        Due.is("halved when " + k + " went", x.count(6), halved);
        Due.latest(k + " went", x, from, cells, Rows.moved(ahead, then));
        int first = keysIn(then, 0, from);
        int m = keysIn(then, from, cells);
        for (int j = 0; j < m; j++) {
            Due.is("KEY " + j + " of " + m + " when " + k + " went", x.cell(x.key(first + j)), from + j * cells / m);
        }
    }

    private static int keysIn(int[] row, int from, int cells) {
        int keys = 0;
        for (int c = from; c < from + cells; c++) {
            keys += row[c] == N ? 0 : 1;
        }
        return keys;
    }

    private static void leastOrMore() {
        Doc.says("the first WINDOW, LEVEL 1 on, with that SEGMENT that has LEAST or more is SPACED (MODE 0);");
        goesBy(Rows.shaped(1, 2, 3, 3), 0, 0, 8, 16);
        goesBy(Rows.shaped(1, 3, 3, 3), 0, 0, 8, 16);
        goesBy(Rows.shaped(3, 3, 2, 1), 90, 8, 8, 16);
        goesBy(Rows.shaped(1, 1, 2, 1), 0, 0, 16, 16);
        goesBy(Rows.shaped(1, 1, 3, 3), 0, 0, 16, 16);
        goesBy(Rows.shaped(1, 2, 1, 1), 90, 0, 16, 16);
        // SIZE 32: LEVEL 2 with 4 of 4 and with 3, LEVEL 3 with 9 of 9.
        goesBy(Rows.shaped(1, 1, 2, 1, 3, 3, 3, 3), 0, 0, 16, 32);
        goesBy(Rows.shaped(3, 3, 3, 3, 1, 2, 1, 1), 210, 16, 16, 32);
        goesBy(Rows.shaped(1, 1, 1, 1, 2, 2, 1, 1), 0, 0, 32, 32);
        goesBy(Rows.shaped(1, 1, 1, 1, 2, 2, 2, 1), 0, 0, 32, 32);
        // SIZE 64: LEVEL 3 with 8 of 8 and with 7, LEVEL 4 with 19 of 19.
        goesBy(Rows.shaped(1, 1, 1, 1, 2, 1, 1, 1, 3, 3, 3, 3, 3, 3, 3, 3), 0, 0, 32, 64);
        goesBy(Rows.shaped(3, 3, 3, 3, 3, 3, 3, 3, 2, 1, 1, 1, 1, 1, 1, 1), 450, 32, 32, 64);
        goesBy(Rows.shaped(1, 1, 1, 1, 1, 1, 1, 1, 2, 2, 2, 2, 1, 1, 1, 1), 0, 0, 64, 64);
        // By MODE 1, too.
        GapRow x = Rows.shaped(1, 1, 2, 1);
        x.mode(1);
        goesBy(x, 0, 0, 16, 16);
    }

    private static void halves() {
        Doc.says("if none has: SIZE is halved, THE ROW is SPACED as one WINDOW "
            + "(MODE 0; at SIZE 16: SPACED as it is).");
        GapRow x = Rows.shaped(1, 1, 1, 1, 2, 1, 1, 1);
        goesBy(x, 0, 0, 16, 16);
        Due.cells("8 in 16", x, 30, N, 60, N, 90, N, 120, N, 130, N, 150, N, 180, N, 210, N);
        goesBy(Rows.shaped(2, 1, 1, 1, 1, 1, 1, 1), 210, 0, 16, 16);
        goesBy(Rows.shaped(1, 1, 1, 1, 1, 1, 1, 1, 2, 2, 2, 1, 1, 1, 1, 1), 0, 0, 32, 32);
        GapRow y = Rows.shaped(1, 1, 1, 1, 2, 1, 1, 1);
        y.mode(1);
        goesBy(y, 0, 0, 16, 16);
        Due.cells("8 in 16 by MODE 1", y, 30, N, 60, N, 90, N, 120, N, 130, N, 150, N, 180, N, 210, N);
    }

    private static void sixteenStays() {
        GapRow x = Rows.shaped(1, 1, 1, 1);
        goesBy(x, 0, 0, 16, 16);
        Due.cells("3 in 16", x, 30, N, N, N, N, 60, N, N, N, N, 90, N, N, N, N, N);
        goesBy(x, 30, 0, 16, 16);
        Due.cells("2 in 16", x, 60, N, N, N, N, N, N, N, 90, N, N, N, N, N, N, N);
        goesBy(x, 90, 0, 16, 16);
        goesBy(x, 60, 0, 16, 16);
        Due.is("never halved", x.count(6), 0);
        Due.is("no KEYS", x.count(1), 0);
    }
}
