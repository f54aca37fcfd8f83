/** Promises 1 to 6: a new object, puts, takes, drops, mode, spaces. The answers are worked out by hand. */
public final class RecordsTest {
    private static final int N = GapRow.NONE;

    private static GapRow rising(int keys) {
        GapRow x = new GapRow();
        for (int k = 1; k <= keys; k++) {
            x.puts(10 * k, k);
        }
        return x;
    }

    private static void newObject() {
        GapRow x = new GapRow();
        int[] counts = {16, 0, 0, 0, 0, 0, 0};
        for (int what = 0; what < counts.length; what++) {
            Due.is("new: count(" + what + ")", x.count(what), counts[what]);
        }
        for (int what = 0; what <= 4; what++) {
            Due.is("new: told(" + what + ")", x.told(what), 0);
        }
        Due.cells("new", x, N, N, N, N, N, N, N, N, N, N, N, N, N, N, N, N);
        Due.is("new: at(16)", x.at(16), GapRow.BAD);
        Due.is("new: log(0, 0)", x.log(0, 0), N);
        Due.is("new: back()", x.back(), GapRow.NO);
        Due.is("new: clear()", x.clear(), 0);
    }

    private static void putsEvenly() {
        GapRow x = new GapRow();
        Due.is("first comes", x.puts(500, 50), 1);
        Due.cells("one", x, 500, N, N, N);
        Due.is("one ahead of it comes to segment 0", x.puts(400, 40), 2);
        Due.cells("two", x, 400, N, 500, N);
        Due.is("one between moves itself alone", x.puts(450, 45), 1);
        Due.cells("three", x, 400, 450, 500, N);
        Due.is("one behind", x.puts(600, 60), 1);
        Due.cells("four", x, 400, 450, 500, 600);
        // SEGMENT 0 would have 5 of 4: WINDOW 0 of LEVEL 1 takes 7 at most.
        Due.is("one into a dense segment", x.puts(401, 41), 4);
        Due.cells("five", x, 400, 401, N, 450, 500, N, 600, N);
        Due.is("the log's cells", x.log(0, 1), 8);
        Due.is("value kept by a spacing", x.value(600), 60);
        // SEGMENT 1 alone is spaced: 600 goes from 6 to 5.
        Due.is("one behind all", x.puts(999, 99), 2);
        Due.cells("six", x, 400, 401, N, 450, 500, 600, 999, N);
    }

    private static void putsBehindTheKeyBelow() {
        GapRow x = rising(5);
        Due.cells("five", x, 10, 20, N, 30, 40, N, 50, N);
        // 35 comes to the SEGMENT of 30, which has room, though 40 opens the next.
        Due.is("puts(35)", x.puts(35, 1), 2);
        Due.cells("35 behind 30", x, 10, 20, 30, 35, 40, N, 50, N);
        Due.is("log(0, 0)", x.log(0, 0), 0);
        Due.is("log(0, 1)", x.log(0, 1), 4);
        // 45 comes to SEGMENT 1: f is 4, and 40, 45, 50 go to 4, 5, 6.
        Due.is("puts(45)", x.puts(45, 1), 1);
        Due.cells("45 behind 40", x, 10, 20, 30, 35, 40, 45, 50, N);
        Due.is("log(0, 0) of segment 1", x.log(0, 0), 4);
    }

    private static void putsLeaning() {
        GapRow x = new GapRow();
        x.mode(1);
        Due.is("first", x.puts(50, 1), 1);
        // c 4, m 2, x 1: 0 times 3 / 2, and 1 times 3 / 2 and 1 more for the one above n 0.
        Due.is("ahead", x.puts(40, 1), 2);
        Due.cells("gap behind 40", x, 40, N, 50, N);
        // m 3: x is 0: 0, 1, 2
        Due.is("third", x.puts(60, 1), 2);
        Due.cells("three", x, 40, 50, 60, N);
        x.puts(70, 1);
        // c 8, m 5, n 2, x 1: 0, 7/5, 14/5, 21/5 + 1, 28/5 + 1
        Due.is("fifth in the middle", x.puts(55, 1), 3);
        Due.cells("leaning", x, 40, 50, 55, N, N, 60, 70, N);
        // n is the last: none is above it, so the gap is at the end.
        GapRow y = new GapRow();
        y.mode(1);
        for (int k = 1; k <= 5; k++) {
            y.puts(k, 0);
        }
        Due.cells("behind all", y, 1, 2, 3, N, 4, 5, N, N);
    }

    private static void putsAgain() {
        GapRow x = rising(3);
        long spacings = x.count(3);
        Due.is("value 2 becomes 0", x.puts(20, 0), 102);
        Due.is("value 0 becomes 99", x.puts(20, 99), 100);
        Due.is("value 99 becomes 99", x.puts(20, 99), 199);
        Due.is("value(20)", x.value(20), 99);
        Due.is("no spacing by it", x.count(3), spacings);
        Due.is("states by it", x.told(4), 5);
        x.back();
        Due.is("a call that changed nothing left a state", x.value(20), 99);
        x.back();
        Due.is("value ahead", x.value(20), 0);
    }

    private static void putsWrong() {
        GapRow x = rising(2);
        int[][] bad = {{-1, 0}, {1000, 0}, {0, -1}, {0, 100}, {10, 100}, {Integer.MIN_VALUE, 5},
            {Integer.MAX_VALUE, 5}, {5, Integer.MIN_VALUE}, {5, Integer.MAX_VALUE}};
        for (int[] b : bad) {
            Due.is("puts(" + b[0] + ", " + b[1] + ")", x.puts(b[0], b[1]), GapRow.BAD);
        }
        Due.is("told(0)", x.told(0), bad.length);
        Due.is("no states by it", x.told(4), 2);
        Due.is("no keys by it", x.count(1), 2);
        Due.is("puts(0, 0)", x.puts(0, 0), 2);
        Due.is("puts(999, 99)", x.puts(999, 99), 1);
    }

    private static void doubles() {
        GapRow x = rising(12);
        Due.is("12 fit in 16", x.count(0), 16);
        x.spaces();
        // 12 in 16: 3 a SEGMENT, each at 0, 1, 2 of it; the last SEGMENT takes one more.
        Due.cells("12", x, 10, 20, 30, N, 40, 50, 60, N, 70, 80, 90, N, 100, 110, 120, N);
        Due.is("13th by its segment", x.puts(130, 13), 1);
        Due.is("still 16", x.count(0), 16);
        // 5 of 4, 8 of 7, 14 of 12: none takes it. 14 in 32: j times 32 / 14.
        Due.is("14th doubles", x.puts(140, 14), 13);
        Due.is("32", x.count(0), 32);
        Due.is("doubled", x.count(5), 1);
        Due.cells("14", x, 10, N, 20, N, 30, N, 40, N, N, 50, N, 60, N, 70, N, N,
            80, N, 90, N, 100, N, 110, N, N, 120, N, 130, N, 140, N, N);
        Due.is("log(0, 0)", x.log(0, 0), 0);
        Due.is("log(0, 1)", x.log(0, 1), 32);
        Due.is("log(0, 2)", x.log(0, 2), 13);
        x.back();
        Due.is("16 again", x.count(0), 16);
        Due.is("not doubled", x.count(5), 0);
        x.mode(1);
        // x is (32 - 14) / 2 = 9, n is 12: j times 23 / 14, and 9 more for 130 alone; 10, 20, 40 stay.
        Due.is("doubles leaning", x.puts(125, 0), 11);
        Due.cells("leaning", x, 10, 20, N, 30, 40, N, 50, N, 60, 70, N, 80, N, 90, 100, N,
            110, N, 120, 125, N, N, N, N, N, N, N, N, N, N, 130, N);
    }

    private static GapRow dense() {
        GapRow x = new GapRow();
        for (int k = 0; k < 48; k++) {
            x.puts(10 * k, k);
        }
        x.spaces();
        return x;
    }

    private static void full() {
        GapRow x = dense();
        Due.is("64", x.count(0), 64);
        Due.is("doubled twice", x.count(5), 2);
        Due.is("48 keys", x.count(1), 48);
        // 3 a SEGMENT. Each SEGMENT takes one more: 16 more, then the row is full to the last CELL.
        for (int g = 0; g < 16; g++) {
            Due.is("one more in segment " + g, x.puts(30 * g + 25, 0), 1);
        }
        Due.is("64 keys", x.count(1), 64);
        int states = x.told(4);
        long logged = x.count(3);
        Due.is("65th", x.puts(999, 0), GapRow.FULL);
        Due.is("65th, least", x.puts(1, 0), GapRow.FULL);
        Due.is("BAD goes ahead of FULL", x.puts(1, 100), GapRow.BAD);
        Due.is("told(2)", x.told(2), 2);
        Due.is("told(4)", x.told(4), states);
        Due.is("count(3)", x.count(3), logged);
        Due.is("one that is there is no matter of room", x.puts(0, 7), 100);
        Due.is("one goes", x.takes(25), 0);
        Due.is("and one comes", x.puts(26, 0), 1);
    }

    private static void fullThoughCellsAreEmpty() {
        GapRow x = dense();
        // SEGMENT 0 to 3 get 4 KEYS: LEVEL 1 has 8 of 7, LEVEL 2 has 16 of 14, LEVEL 3 28 of 26.
        for (int g = 0; g < 4; g++) {
            x.puts(30 * g + 25, 0);
        }
        Due.is("52 keys", x.count(1), 52);
        Due.is("no window of segment 0 takes one", x.puts(1, 0), GapRow.FULL);
        // LEVEL 0 of SEGMENT 4 does; thereafter LEVEL 2 of it: 13 and 1 of 14.
        Due.is("segment 4 takes one", x.puts(121, 0), 3);
        // 14 in 16: j times 16 / 14; 120, 121 and the last three stay.
        Due.is("its window takes one", x.puts(122, 0), 9);
        Due.is("log(0, 0)", x.log(0, 0), 16);
        Due.is("log(0, 1)", x.log(0, 1), 16);
    }

    private static void takes() {
        GapRow x = rising(6);
        Due.cells("six", x, 10, 20, N, 30, 40, 50, 60, N);
        long spacings = x.count(3);
        Due.is("takes(20)", x.takes(20), 2);
        Due.cells("20 went", x, 10, N, N, 30, 40, 50, 60, N);
        x.takes(10);
        Due.is("no spacing while one is left", x.count(3), spacings);
        Due.is("takes(30)", x.takes(30), 3);
        // SEGMENT 0 is empty, LEVEL 1 has 3 of LEAST 2: 3 in 8.
        Due.cells("spaced", x, 40, N, 50, N, N, 60, N, N);
        Due.is("log(0, 1)", x.log(0, 1), 8);
        Due.is("log(0, 2)", x.log(0, 2), 3);
        Due.is("takes(60)", x.takes(60), 6);
        // SEGMENT 1 is empty, LEVEL 1 has 2 of 2.
        Due.cells("two in 8", x, 40, N, N, N, 50, N, N, N);
        Due.is("takes(50)", x.takes(50), 5);
        // LEVEL 1 has 1 of 2, LEVEL 2 1 of 4: THE ROW is spaced as it is.
        Due.is("log(0, 1) of the row", x.log(0, 1), 16);
        Due.is("log(0, 2) of the row", x.log(0, 2), 0);
        Due.is("16 stays", x.count(0), 16);
        Due.is("none halved", x.count(6), 0);
        Due.is("takes(40)", x.takes(40), 4);
        Due.is("no keys", x.count(1), 0);
        Due.is("spacing of none", x.log(0, 1), 16);
        Due.is("takes(40) again", x.takes(40), GapRow.NO);
        Due.is("told(1)", x.told(1), 1);
        Due.is("takes(-1)", x.takes(-1), GapRow.BAD);
        Due.is("takes(1000)", x.takes(1000), GapRow.BAD);
        Due.is("told(0)", x.told(0), 2);
        Due.is("told(4)", x.told(4), 5);
    }

    private static void takesSpacesEvenlyByModeOne() {
        GapRow x = rising(6);
        x.mode(1);
        x.takes(10);
        x.takes(20);
        x.takes(30);
        Due.cells("evenly", x, 40, N, 50, N, N, 60, N, N);
    }

    private static void halves() {
        GapRow x = rising(12);
        x.spaces();
        x.puts(130, 13);
        x.puts(140, 14);
        Due.is("32", x.count(0), 32);
        Due.is("drops(10, 50)", x.drops(10, 50), 5);
        Due.is("9 of LEAST 9: 32 stays", x.count(0), 32);
        Due.is("none halved", x.count(6), 0);
        int left = x.count(1);
        while (x.count(0) == 32 && left > 0) {
            x.takes(x.key(0));
            left--;
        }
        Due.is("16", x.count(0), 16);
        Due.is("halved", x.count(6), 1);
        Due.is("log(0, 1)", x.log(0, 1), 16);
        int m = x.count(1);
        Due.holds("8 keys at most after halving", m <= 8);
        for (int j = 0; j < m; j++) {
            Due.is("evenly in 16", x.cell(x.key(j)), j * 16 / m);
        }
        x.back();
        Due.is("32 again", x.count(0), 32);
        Due.is("not halved", x.count(6), 0);
    }

    private static void halvesFromSixtyFour() {
        GapRow x = dense();
        Due.is("drops(0, 470)", x.drops(0, 470), 48);
        Due.is("16", x.count(0), 16);
        Due.is("halved twice", x.count(6), 2);
        x.back();
        Due.is("64 again", x.count(0), 64);
        Due.is("48 again", x.count(1), 48);
        Due.is("value of one of them", x.value(470), 47);
    }

    private static void drops() {
        GapRow x = rising(6);
        Due.is("none in between", x.drops(11, 19), 0);
        Due.is("a state by it", x.told(4), 5);
        Due.is("both ends", x.drops(20, 40), 3);
        Due.is("key(0)", x.key(0), 10);
        Due.is("key(1)", x.key(1), 50);
        Due.is("one", x.drops(50, 50), 1);
        Due.is("all", x.drops(0, 999), 2);
        Due.is("none", x.drops(0, 999), 0);
        int[][] bad = {{5, 4}, {-1, 4}, {0, 1000}, {1000, 1000}, {-2, -1},
            {Integer.MIN_VALUE, Integer.MAX_VALUE}};
        for (int[] b : bad) {
            Due.is("drops(" + b[0] + ", " + b[1] + ")", x.drops(b[0], b[1]), GapRow.BAD);
        }
        Due.is("told(0)", x.told(0), bad.length);
    }

    private static void dropsRisingOneByOne() {
        GapRow x = rising(6);
        GapRow y = rising(6);
        x.drops(10, 50);
        for (int k = 10; k <= 50; k += 10) {
            y.takes(k);
        }
        for (int i = 0; i < 8; i++) {
            for (int what = 0; what <= 2; what++) {
                Due.is("log(" + i + ", " + what + ") as by takes", x.log(i, what), y.log(i, what));
            }
        }
        Due.is("count(3) as by takes", x.count(3), y.count(3));
        Due.is("count(4) as by takes", x.count(4), y.count(4));
        Due.is("one state", x.told(4), 5);
        x.back();
        Due.is("all six again", x.count(1), 6);
    }

    private static void mode() {
        GapRow x = new GapRow();
        Due.is("mode(1)", x.mode(1), 0);
        Due.is("mode(1) again", x.mode(1), 1);
        Due.is("mode(0)", x.mode(0), 1);
        Due.is("mode(0) again", x.mode(0), 0);
        Due.is("states", x.told(4), 4);
        int[] bad = {-1, 2, Integer.MIN_VALUE, Integer.MAX_VALUE};
        for (int b : bad) {
            Due.is("mode(" + b + ")", x.mode(b), GapRow.BAD);
        }
        Due.is("told(0)", x.told(0), bad.length);
        Due.is("count(2)", x.count(2), 0);
    }

    private static void spaces() {
        GapRow x = rising(4);
        x.mode(1);
        Due.is("spaces()", x.spaces(), 3);
        Due.cells("evenly, also at mode 1", x, 10, N, N, N, 20, N, N, N, 30, N, N, N, 40, N, N, N);
        Due.is("again", x.spaces(), 0);
        Due.is("log(0, 0)", x.log(0, 0), 0);
        Due.is("log(0, 1)", x.log(0, 1), 16);
        Due.is("log(0, 2)", x.log(0, 2), 0);
        Due.is("log(1, 2)", x.log(1, 2), 3);
        Due.is("count(3)", x.count(3), 6);
        x.back();
        Due.is("count(3) back", x.count(3), 5);
        GapRow y = new GapRow();
        Due.is("of none", y.spaces(), 0);
        Due.is("counts", y.count(3), 1);
        Due.is("a state", y.told(4), 1);
    }

    public static void main(String[] args) {
        newObject();
        putsEvenly();
        putsBehindTheKeyBelow();
        putsLeaning();
        putsAgain();
        putsWrong();
        doubles();
        full();
        fullThoughCellsAreEmpty();
        takes();
        takesSpacesEvenlyByModeOne();
        halves();
        halvesFromSixtyFour();
        drops();
        dropsRisingOneByOne();
        mode();
        spaces();
        Due.end();
    }
}
