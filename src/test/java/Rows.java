/** Rows of a told shape, made by calls alone, for the tests of the edges. */
final class Rows {
    private static final int N = GapRow.NONE;

    private Rows() {
    }

    /** The KEY at place p of SEGMENT g in a shaped row: 30 g, 10 and 20 more, and 25 more for the fourth. */
    static int key(int g, int p) {
        return 30 * g + (p == 3 ? 25 : 10 * p);
    }

    /** 3 KEYS in each SEGMENT, in its CELLS 0, 1, 2; VALUES 1, 2, 3 there. */
    static GapRow threes(int size) {
        GapRow x = new GapRow();
        for (int j = 0; j < size / 4 * 3; j++) {
            x.puts(key(j / 3, j % 3), 1 + j % 3);
        }
        x.spaces();
        return x;
    }

    /**
     * As many KEYS (1 to 4) in each SEGMENT as told, in its CELLS 0 on. A SEGMENT that keeps one is not spaced
     * when others go, and one with 3 takes a fourth, so no KEY leaves its CELL while the shape is made.
     */
    static GapRow shaped(int... keys) {
        GapRow x = threes(4 * keys.length);
        for (int g = 0; g < keys.length; g++) {
            for (int p = 2; p >= keys[g]; p--) {
                x.takes(key(g, p));
            }
            if (keys[g] == 4) {
                x.puts(key(g, 3), 4);
            }
        }
        Due.is("shape: SIZE", x.count(0), 4 * keys.length);
        for (int g = 0; g < keys.length; g++) {
            Due.is("shape: KEYS of SEGMENT " + g, x.window(0, g, 0), keys[g]);
            Due.is("shape: first CELL of SEGMENT " + g, x.at(4 * g), key(g, 0));
        }
        return x;
    }

    static int[] cells(GapRow x) {
        int[] found = new int[x.count(0)];
        for (int c = 0; c < found.length; c++) {
            found[c] = x.at(c);
        }
        return found;
    }

    /** How many KEYS are in another CELL than ahead. */
    static int moved(int[] ahead, int[] then) {
        int moved = 0;
        for (int c = 0; c < then.length; c++) {
            if (then[c] != N && (c >= ahead.length || ahead[c] != then[c])) {
                moved++;
            }
        }
        return moved;
    }

    /** All that can be seen of it but how often refused. */
    static String seen(GapRow x) {
        return seenOfRow(x) + x.told(3) + " " + x.told(4);
    }

    /** What of it is there again when one goes back. */
    static String seenOfRow(GapRow x) {
        StringBuilder all = new StringBuilder();
        for (int what = 0; what <= 6; what++) {
            all.append(x.count(what)).append(' ');
        }
        for (int k : cells(x)) {
            all.append(k).append(k == N ? "" : ":" + x.value(k)).append(' ');
        }
        int logged = Math.min(x.count(3), 8);
        for (int i = 0; i < logged; i++) {
            all.append(x.log(i, 0)).append('/').append(x.log(i, 1)).append('/').append(x.log(i, 2)).append(' ');
        }
        return all.toString();
    }

    static int refusals(GapRow x) {
        return x.told(0) + x.told(1) + x.told(2);
    }
}
