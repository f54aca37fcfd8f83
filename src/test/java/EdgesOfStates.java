import java.util.function.ToIntFunction;

/** STATES and refusals, and promises 20 and 21. */
final class EdgesOfStates {
    private static final int BAD = GapRow.BAD;
    private static final int NO = GapRow.NO;
    private static final int FULL = GapRow.FULL;

    private EdgesOfStates() {
    }

    static void all() {
        leavesOne();
        leavesNone();
        allButTextAndRefusals();
        fiveAtMost();
        changesNothing();
        firstOf();
        byDoesNothingCounts();
        back();
        told();
    }

    private static void leaves(String what, GapRow x, ToIntFunction<GapRow> call, int states) {
        int ahead = x.told(4);
        call.applyAsInt(x);
        Due.is("STATES by " + what, x.told(4) - ahead, states);
    }

    private static GapRow oneKey() {
        GapRow x = new GapRow();
        x.puts(5, 5);
        Due.type(x, "m0;");
        return x;
    }

    private static void leavesOne() {
        Doc.says("STATES: each call told S, if it is not refused, leaves one, also if nothing becomes other by it, "
            + "to go back to");
        leaves("puts", oneKey(), x -> x.puts(6, 6), 1);
        leaves("puts of what is there", oneKey(), x -> x.puts(5, 5), 1);
        leaves("takes", oneKey(), x -> x.takes(5), 1);
        leaves("drops", oneKey(), x -> x.drops(0, 9), 1);
        leaves("drops of none", oneKey(), x -> x.drops(6, 9), 1);
        leaves("mode", oneKey(), x -> x.mode(1), 1);
        leaves("mode as it is", oneKey(), x -> x.mode(0), 1);
        leaves("spaces", oneKey(), x -> x.spaces(), 1);
        leaves("does", oneKey(), x -> x.does(), 1);
        GapRow x = oneKey();
        x.mode(0);
        x.drops(6, 9);
        x.puts(5, 5);
        for (int left = 3; left >= 1; left--) {
            Due.is("back()", x.back(), left);
            Due.is("as it was", x.value(5), 5);
        }
        Due.is("back() to a new object", x.back(), 0);
        Due.is("no KEYS", x.count(1), 0);
    }

    private static void leavesNone() {
        leaves("puts, BAD", oneKey(), x -> x.puts(5, 100), 0);
        leaves("takes, BAD", oneKey(), x -> x.takes(-1), 0);
        leaves("takes, NO", oneKey(), x -> x.takes(6), 0);
        leaves("drops, BAD", oneKey(), x -> x.drops(9, 0), 0);
        leaves("mode, BAD", oneKey(), x -> x.mode(2), 0);
        leaves("value", oneKey(), x -> x.value(5), 0);
        leaves("cell", oneKey(), x -> x.cell(5), 0);
        leaves("at", oneKey(), x -> x.at(0), 0);
        leaves("rank", oneKey(), x -> x.rank(5), 0);
        leaves("key", oneKey(), x -> x.key(0), 0);
        leaves("scan", oneKey(), x -> x.scan(0, 9, 2), 0);
        leaves("index", oneKey(), x -> x.index(0), 0);
        leaves("window", oneKey(), x -> x.window(0, 0, 0), 0);
        leaves("count", oneKey(), x -> x.count(1), 0);
        leaves("log", oneKey(), x -> x.log(0, 0), 0);
        leaves("type", oneKey(), x -> x.type('m'), 0);
        leaves("clear", oneKey(), x -> x.clear(), 0);
        leaves("told", oneKey(), x -> x.told(4), 0);
        leaves("digest", oneKey(), x -> (int) x.digest(), 0);
        leaves("back", oneKey(), x -> x.back(), -1);
        // Not while older ones would be lost by it, either.
        GapRow full = Rows.shaped(4, 4, 4, 4, 4, 4, 4, 4, 4, 4, 4, 4, 4, 4, 4, 4);
        full.puts(999, 0);
        Due.is("back()", full.back(), 4);
        Due.is("64 less the last that came", full.count(1), 63);
    }

    private static void allButTextAndRefusals() {
        Doc.says("(all but THE TEXT and how often refused), 5 at most, older ones lost.");
        undone("a new VALUE", x -> x.puts(0, 77));
        undone("one comes", x -> x.puts(33, 3));
        undone("SIZE doubles", x -> x.puts(5, 0));
        undone("one goes", x -> x.takes(0));
        undone("all go", x -> x.drops(0, 999));
        undone("MODE", x -> x.mode(1));
        undone("a SPACING", x -> x.spaces());
        GapRow x = Rows.shaped(1, 1, 1, 1, 2, 1, 1, 1);
        String ahead = Rows.seenOfRow(x);
        x.takes(0);
        Due.is("SIZE is halved", x.count(0), 16);
        x.back();
        Due.holds("SIZE and all is back", ahead.equals(Rows.seenOfRow(x)));
        GapRow y = new GapRow();
        y.spaces();
        y.spaces();
        y.back();
        Due.is("LOG: the first", y.log(0, 1), 16);
        Due.is("LOG: no second", y.log(1, 1), GapRow.NONE);
    }

    private static void undone(String what, ToIntFunction<GapRow> call) {
        GapRow x = Rows.shaped(4, 3, 3, 2);
        String ahead = Rows.seenOfRow(x);
        Due.holds(what + ": not refused", call.applyAsInt(x) >= 0);
        x.type('p');
        x.at(-1);
        x.takes(7);
        x.type('1');
        x.back();
        Due.holds(what + ": all is back", ahead.equals(Rows.seenOfRow(x)));
        Due.is(what + ": THE TEXT stays", x.told(3), 2);
        Due.is(what + ": BAD stays", x.told(0), 1);
        Due.is(what + ": NO stays", x.told(1), 1);
    }

    private static void fiveAtMost() {
        GapRow x = new GapRow();
        for (int k = 1; k <= 5; k++) {
            x.puts(k, k);
            Due.is("told(4)", x.told(4), k);
        }
        for (int left = 4; left >= 0; left--) {
            Due.is("back() of 5", x.back(), left);
        }
        Due.is("to a new object", x.count(1), 0);
        for (int k = 1; k <= 20; k++) {
            x.puts(k, k);
        }
        Due.is("5 at most", x.told(4), 5);
        for (int left = 4; left >= 0; left--) {
            Due.is("back() of 20", x.back(), left);
            Due.is("KEYS", x.count(1), 15 + left);
        }
        Due.is("older ones lost", x.back(), NO);
        Due.is("KEYS at last", x.count(1), 15);
    }

    // ---- refusals

    private static void refused(String what, GapRow x, ToIntFunction<GapRow> call, int code) {
        String ahead = Rows.seen(x);
        int[] told = {x.told(0), x.told(1), x.told(2)};
        Due.is(what, call.applyAsInt(x), code);
        told[BAD - code]++;
        for (int w = 0; w <= 2; w++) {
            Due.is("told(" + w + ") by " + what, x.told(w), told[w]);
        }
        Due.holds("nothing else becomes other by " + what, ahead.equals(Rows.seen(x)));
    }

    private static void bad(String what, ToIntFunction<GapRow> call) {
        refused(what, oneKey(), call, BAD);
    }

    private static GapRow fullRow() {
        return Rows.shaped(4, 4, 4, 4, 4, 4, 4, 4, 4, 4, 4, 4, 4, 4, 4, 4);
    }

    private static GapRow fullText() {
        GapRow x = new GapRow();
        Due.type(x, "m".repeat(120));
        return x;
    }

    private static void changesNothing() {
        Doc.says("Refused (any call, getters, too), changing nothing but how often,");
        bad("puts", x -> x.puts(5, 100));
        bad("takes", x -> x.takes(1000));
        bad("drops", x -> x.drops(6, 5));
        bad("mode", x -> x.mode(2));
        bad("value", x -> x.value(1000));
        bad("cell", x -> x.cell(1000));
        bad("at", x -> x.at(16));
        bad("rank", x -> x.rank(1001));
        bad("key", x -> x.key(-1));
        bad("scan", x -> x.scan(6, 5, 0));
        bad("index", x -> x.index(4));
        bad("window", x -> x.window(3, 0, 0));
        bad("count", x -> x.count(7));
        bad("log", x -> x.log(-1, 0));
        bad("type", x -> x.type(128));
        bad("told", x -> x.told(5));
        refused("takes", oneKey(), x -> x.takes(6), NO);
        refused("value", oneKey(), x -> x.value(6), NO);
        refused("back", new GapRow(), x -> x.back(), NO);
        refused("puts", fullRow(), x -> x.puts(999, 0), FULL);
        refused("type", fullText(), x -> x.type('m'), FULL);
    }

    private static void firstOf() {
        Doc.says("the first of: BAD -2 a number is not as told; NO -3, FULL -4 as told.");
        Due.is("BAD", BAD, -2);
        Due.is("NO", NO, -3);
        Due.is("FULL", FULL, -4);
        refused("BAD ahead of NO: takes", oneKey(), x -> x.takes(-1), BAD);
        refused("BAD ahead of NO: value", oneKey(), x -> x.value(-1), BAD);
        refused("BAD ahead of FULL: puts", fullRow(), x -> x.puts(999, 100), BAD);
        refused("BAD ahead of FULL: puts", fullRow(), x -> x.puts(1000, 0), BAD);
        refused("BAD ahead of FULL: type", fullText(), x -> x.type(128), BAD);
        refused("BAD ahead of NONE: log", oneKey(), x -> x.log(8, 3), BAD);
        refused("one refusal for two numbers: puts", oneKey(), x -> x.puts(-1, 100), BAD);
        refused("one refusal for three numbers: window", oneKey(), x -> x.window(-1, -1, -1), BAD);
        refused("one refusal for three numbers: scan", oneKey(), x -> x.scan(1000, -1, 3), BAD);
    }

    private static void byDoesNothingCounts() {
        Doc.says("By does() nothing counts (by type() as by any call).");
        String[] texts = {"t6;", "p1 100;", "d9 0;", "m2;", "m1;t6;", "x", "", "p1234 1;"};
        for (String text : texts) {
            GapRow x = oneKey();
            Due.holds("does() of '" + text + "'", Due.does(x, text) < 0);
            Due.is("refusals by '" + text + "'", Rows.refusals(x), 0);
        }
        GapRow full = fullRow();
        Due.is("FULL by does()", Due.does(full, "p999 0;"), -1000);
        Due.is("refusals by FULL", Rows.refusals(full), 0);
        GapRow typed = fullText();
        typed.type(-1);
        typed.type(128);
        typed.type('m');
        Due.is("BAD by type()", typed.told(0), 2);
        Due.is("FULL by type()", typed.told(2), 1);
        // SPACINGS and MOVES are no refusals: they are the row's own, by whatever call.
        GapRow done = new GapRow();
        Due.does(done, "p1 1;p2 2;");
        Due.is("SPACINGS by does()", done.count(3), 2);
        Due.is("MOVES by does()", done.count(4), 2);
    }

    private static void back() {
        Doc.says("`int back()`: A STATE back: how many can be yet. NO: none.");
        GapRow x = new GapRow();
        Due.is("none at first", x.back(), NO);
        x.puts(5, 5);
        Due.is("the only one", x.back(), 0);
        Due.is("none is left", x.back(), NO);
        Due.is("told(1)", x.told(1), 2);
        Due.is("no KEYS", x.count(1), 0);
        x.puts(6, 6);
        x.puts(7, 7);
        Due.is("one of two", x.back(), 1);
        Due.is("it is the later that is back", x.key(0), 6);
        x.puts(8, 8);
        Due.is("going back leaves none", x.told(4), 2);
        Due.is("what was gone back from is lost", x.cell(7), GapRow.NONE);
        Due.is("back()", x.back(), 1);
        Due.is("back() again", x.back(), 0);
        Due.is("no KEYS again", x.count(1), 0);
    }

    private static void told() {
        Doc.says("`int told(int what)`: How often refused: BAD (0), NO (1), FULL (2); bytes of THE TEXT (3), "
            + "STATES (4). BAD.");
        GapRow x = fullText();
        x.mode(1);
        x.mode(1);
        x.at(-1);
        x.at(16);
        x.at(17);
        x.takes(0);
        x.value(0);
        x.takes(1);
        x.takes(2);
        x.type(0);
        int[] due = {3, 4, 1, 120, 2};
        for (int what = 0; what <= 4; what++) {
            Due.is("told(" + what + ")", x.told(what), due[what]);
        }
        for (int what : new int[] {-1, 5, Integer.MIN_VALUE, Integer.MAX_VALUE}) {
            Due.is("told(" + what + ")", x.told(what), BAD);
        }
        Due.is("told(0) then", x.told(0), 7);
    }
}
