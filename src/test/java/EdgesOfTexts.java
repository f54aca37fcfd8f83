import java.math.BigInteger;

/** THE TEXT and its ORDERS, and promises 17 to 19 and 22. The answers are worked out by hand. */
final class EdgesOfTexts {
    private static final int N = GapRow.NONE;
    private static final int BAD = GapRow.BAD;
    private static final int LOW = Integer.MIN_VALUE;
    private static final int HIGH = Integer.MAX_VALUE;

    private EdgesOfTexts() {
    }

    static void all() {
        bytes120();
        ordersAsCalls();
        figures1To3();
        blanks();
        readWholeFirst();
        refusedThen();
        firstByteThatCanNotStand();
        endsTooEarly();
        faultDoesNothing();
        type();
        clear();
        does();
        digest();
        digestWrapsAround();
    }

    private static String orders(int n, String last) {
        return "m1;".repeat(n - 1) + last;
    }

    private static void done(String text, int due) {
        Due.is("does() of '" + text + "'", Due.does(new GapRow(), text), due);
    }

    private static void fault(String text, int place) {
        done(text, -10 - place);
    }

    private static void bytes120() {
        Doc.says("THE TEXT (120 bytes at most) tells ORDERS, each ended by ; :");
        done("m1;", 1);
        fault("m1", 2);
        fault("m1m1;", 2);
        fault("m1;m1", 5);
        fault(";", 0);
        fault("m1;;", 3);
        GapRow x = new GapRow();
        Due.is("40 ORDERS in 120 bytes", Due.does(x, orders(40, "m1;")), 40);
        Due.is("told(3)", x.told(3), 120);
        Due.is("one more byte", x.type('m'), GapRow.FULL);
        Due.is("told(3) then", x.told(3), 120);
        Due.is("does() then", x.does(), 40);
    }

    private static void ordersAsCalls() {
        Doc.says("p k v (as puts), t k (as takes), m n (as mode), d a b (as drops).");
        GapRow x = new GapRow();
        GapRow y = new GapRow();
        Due.is("does()", Due.does(x, "p0 0;p999 99;p500 50;m1;p501 51;t500;p999 0;d501 501;d1 998;"), 9);
        y.puts(0, 0);
        y.puts(999, 99);
        y.puts(500, 50);
        y.mode(1);
        y.puts(501, 51);
        y.takes(500);
        y.puts(999, 0);
        y.drops(501, 501);
        y.drops(1, 998);
        Due.holds("all as by calls", Rows.seenOfRow(x).equals(Rows.seenOfRow(y)));
        for (char c = 0; c < 128; c++) {
            if (c != ' ' && "ptmd".indexOf(c) < 0) {
                fault(c + "1;", 0);
            }
        }
        fault("P1 1;", 0);
        fault("p1;", 2);
        fault("d1;", 2);
        fault("t1 1;", 3);
        fault("m1 1;", 3);
        done("p1000 1;", -14);
    }

    private static void figures1To3() {
        Doc.says("Numbers have 1 to 3 figures;");
        fault("t;", 1);
        fault("p;", 1);
        fault("p1 ;", 3);
        done("m1;", 1);
        done("m01;", 1);
        done("m001;", 1);
        fault("m0001;", 4);
        done("p999 099;", 1);
        done("p000 000;", 1);
        fault("p0000 0;", 4);
        fault("p1 0000;", 6);
        GapRow x = new GapRow();
        Due.does(x, "p7 8;p17 18;p117 9;");
        Due.is("value(7)", x.value(7), 8);
        Due.is("value(17)", x.value(17), 18);
        Due.is("value(117)", x.value(117), 9);
        Due.does(x, "p987 65;p007 004;");
        Due.is("value(987)", x.value(987), 65);
        Due.is("value(7) then", x.value(7), 4);
    }

    private static void blanks() {
        Doc.says("blanks (32) may stand anywhere but within a number, "
            + "needed only where figures of two numbers would else stand side by side.");
        done("p1 2;t1;m0;d0 9;", 4);
        done("  p  1  2  ;  t  1  ;  m  0  ;  d  0  9  ;  ", 4);
        done(" m1;", 1);
        done("m1; ", 1);
        done("m1 ;", 1);
        done(" ".repeat(117) + "m1;", 1);
        done("m1;" + " ".repeat(117), 1);
        fault("m0 1;", 3);
        fault("t1 2;", 3);
        fault("p1 2 3;", 5);
        fault("p12;", 3);
        GapRow x = new GapRow();
        Due.does(x, "p1 23;p12 3;");
        Due.is("value(1)", x.value(1), 23);
        Due.is("value(12)", x.value(12), 3);
        for (char c : new char[] {0, 9, 10, 13, 31, 33, 127}) {
            fault("m" + c + "1;", 1);
            fault("m1;" + c, 3);
        }
    }

    private static void readWholeFirst() {
        Doc.says("THE TEXT is read whole first; an ORDER that its call would refuse then ends all, nothing is done.");
        fault("t5;x", 3);
        fault("m2;m1", 5);
        fault("p1 1;t2;p1234 1;", 12);
        ended("t5;", 0);
        ended("p1 100;", 0);
        ended("d5 4;", 0);
        ended("m2;", 0);
        ended("m999;", 0);
        ended("p1 1;t2;", 1);
        ended("m1;p1 1;p2 2;t1;t1;", 4);
        ended("p1 1;d0 9;t1;", 2);
        ended("d0 999;p10 100;", 1);
    }

    private static void ended(String text, int order) {
        GapRow x = Rows.threes(16);
        x.drops(0, 5);
        x.takes(10);
        Due.type(x, text);
        String ahead = Rows.seen(x);
        Due.is("does() of '" + text + "'", x.does(), -1000 - order);
        Due.holds("nothing is done by '" + text + "'", ahead.equals(Rows.seen(x)));
        Due.is("nothing counts by '" + text + "'", Rows.refusals(x), 0);
    }

    /** "then": as it is when the ORDERS ahead are done, not as it was when does() was called. */
    private static void refusedThen() {
        GapRow x = new GapRow();
        Due.is("one that comes and goes", Due.does(x, "p1 1;t1;p1 1;t1;"), 4);
        GapRow full = Rows.shaped(4, 4, 4, 4, 4, 4, 4, 4, 4, 4, 4, 4, 4, 4, 4, 4);
        Due.is("FULL", Due.does(full, "p999 1;"), -1000);
        Due.is("room is made ahead", Due.does(full, "t475;p999 1;"), 2);
        Due.is("and is gone then", Due.does(full, "t999;p998 1;p997 1;"), -1002);
        Due.is("nothing is done", full.value(999), 1);
        Due.is("one that is there", Due.does(full, "p0 7;"), 1);
        Due.is("no refusals", Rows.refusals(full), 0);
    }

    /** Which of all bytes may stand behind the text told; any other is the FAULT, there. */
    private static void next(String text, String may) {
        for (char c = 0; c < 128; c++) {
            GapRow x = new GapRow();
            boolean stands = Due.does(x, text + c) != -10 - text.length();
            Due.holds("byte " + (int) c + " behind '" + text + "'", stands == may.indexOf(c) >= 0);
        }
    }

    private static void firstByteThatCanNotStand() {
        Doc.says("FAULT: the place of the first byte that can not stand there (a fourth figure);");
        String figures = "0123456789";
        next("", " ptmd");
        next(" ", " ptmd");
        next("p", " " + figures);
        next("p ", " " + figures);
        next("p1", " " + figures);
        next("p12", " " + figures);
        next("p123", " ");
        next("p123 ", " " + figures);
        next("p123 4", " ;" + figures);
        next("p123 45", " ;" + figures);
        next("p123 456", " ;");
        next("d1 2 ", " ;");
        next("t", " " + figures);
        next("t1", " ;" + figures);
        next("t123", " ;");
        next("m1 ", " ;");
        next("m1;", " ptmd");
        next("m1; ", " ptmd");
        fault("x" + "y".repeat(119), 0);
        fault("m1;x;y", 3);
        fault(orders(40, "m1x"), 119);
    }

    private static void endsTooEarly() {
        Doc.says("the TEXT's length, if it ends too early (one that is empty or has blanks alone, too).");
        fault("", 0);
        fault(" ", 1);
        fault(" ".repeat(120), 120);
        for (String text : new String[] {"p", "p ", "p1", "p1 ", "p1 2", "p123 456", "p1 2 ", "t", "t1", "t1 ", "d0 9",
            "m1;t", "m1;t1", "m1; p1 2"}) {
            fault(text, text.length());
        }
        fault(orders(40, "m11"), 120);
        GapRow x = new GapRow();
        Due.does(x, "m1;");
        x.clear();
        Due.is("empty again", x.does(), -10);
    }

    private static void faultDoesNothing() {
        Doc.says("If there is one, nothing is done.");
        for (String text : new String[] {"", "  ", "p1 1;t10;m1;x", "p1 1;t10;m1;p", "d0 999;;", "t5;m1"}) {
            GapRow x = Rows.threes(16);
            Due.type(x, text);
            String ahead = Rows.seen(x);
            Due.holds("a FAULT of '" + text + "'", x.does() <= -10);
            Due.holds("nothing is done by '" + text + "'", ahead.equals(Rows.seen(x)));
            Due.is("nothing counts by '" + text + "'", Rows.refusals(x), 0);
        }
    }

    private static void type() {
        Doc.says("`int type(int c)`: A byte (0 .. 127) comes behind THE TEXT: how many it has. BAD; FULL: 120.");
        GapRow x = new GapRow();
        Due.is("type(0)", x.type(0), 1);
        Due.is("type(127)", x.type(127), 2);
        for (int c : new int[] {-1, 128, LOW, HIGH}) {
            Due.is("type(" + c + ")", x.type(c), BAD);
        }
        Due.is("told(0)", x.told(0), 4);
        for (int n = 3; n <= 119; n++) {
            x.type('m');
        }
        Due.is("byte 120", x.type('m'), 120);
        Due.is("byte 121", x.type('m'), GapRow.FULL);
        Due.is("byte 121, 127", x.type(127), GapRow.FULL);
        Due.is("byte 121, 128", x.type(128), BAD);
        Due.is("told(0) then", x.told(0), 5);
        Due.is("told(2)", x.told(2), 2);
        Due.is("told(3)", x.told(3), 120);
        Due.is("no STATE by it", x.told(4), 0);
    }

    private static void clear() {
        Doc.says("`int clear()`: THE TEXT is empty: how many it had.");
        GapRow x = new GapRow();
        Due.is("empty already", x.clear(), 0);
        Due.type(x, orders(40, "m1;"));
        Due.is("120", x.clear(), 120);
        Due.is("told(3)", x.told(3), 0);
        Due.is("again", x.clear(), 0);
        Due.is("type() then", x.type('m'), 1);
        Due.is("the bytes ahead are gone", x.does(), -11);
        Due.is("no STATE by it", x.told(4), 0);
        Due.is("no refusals", Rows.refusals(x), 0);
    }

    private static void does() {
        Doc.says("`int does()`: ORDERS are done (THE TEXT stays): how many. S (one STATE for all). "
            + "-10 less the FAULT (no S); -1000 less the number (0 on) of the ORDER that ends all (no S).");
        GapRow x = new GapRow();
        Due.is("one", Due.does(x, "p5 5;"), 1);
        Due.is("told(3)", x.told(3), 5);
        Due.is("again", x.does(), 1);
        Due.is("two STATES", x.told(4), 2);
        Due.is("39", Due.does(x, "p6 6;" + orders(38, "m0;")), 39);
        Due.is("one STATE for all", x.told(4), 3);
        Due.is("count(1)", x.count(1), 2);
        Due.is("the least FAULT", Due.does(x, ""), -10);
        Due.is("the greatest FAULT", Due.does(x, orders(40, "m11")), -130);
        Due.is("the first ORDER", Due.does(x, "m2;"), -1000);
        Due.is("the last of 40", Due.does(x, orders(40, "m2;")), -1039);
        Due.is("told(3) then", x.told(3), 120);
        Due.is("no STATES by them", x.told(4), 3);
        Due.is("MODE stays", x.count(2), 0);
        x.back();
        Due.is("all of them are back", x.count(1), 1);
        noStateIsLost();
    }

    /** "no S": with 5 STATES, neither a FAULT nor an ORDER that ends all may cost the oldest. */
    private static void noStateIsLost() {
        GapRow x = new GapRow();
        for (int k = 1; k <= 7; k++) {
            x.puts(k, k);
        }
        Due.is("ends all", Due.does(x, "p8 8;t9;"), -1001);
        Due.is("a FAULT", Due.does(x, "p8 8"), -14);
        for (int left = 4; left >= 0; left--) {
            Due.is("back()", x.back(), left);
            Due.is("KEYS", x.count(1), left + 2);
            Due.is("the last KEY", x.key(left + 1), left + 2);
        }
    }

    private static long sum(int... numbers) {
        BigInteger h = BigInteger.valueOf(1837);
        for (int v : numbers) {
            h = h.multiply(BigInteger.valueOf(31)).add(BigInteger.valueOf(v));
        }
        return h.longValue();
    }

    private static void digest() {
        Doc.says("`long digest()`: h = 1837; then h = 31 h + v for each v: told(0) to told(4); count(0) to count(6); "
            + "of each CELL its KEY (NONE), and its VALUE, if it has one; INDEX of each SEGMENT; "
            + "LOG, the latest first, its CELL, CELLS, MOVES.");
        GapRow x = new GapRow();
        Due.is("new", x.digest(), sum(0, 0, 0, 0, 0, 16, 0, 0, 0, 0, 0, 0,
            N, N, N, N, N, N, N, N, N, N, N, N, N, N, N, N, N, N, N, N));
        // VALUE 0 is a VALUE; an empty CELL has none.
        x.puts(5, 0);
        Due.is("one KEY", x.digest(), sum(0, 0, 0, 0, 1, 16, 1, 0, 1, 1, 0, 0,
            5, 0, N, N, N, N, N, N, N, N, N, N, N, N, N, N, N, 5, N, N, N, 0, 4, 1));
        x.puts(0, 99);
        x.mode(1);
        x.at(-1);
        x.takes(6);
        x.type(';');
        Due.is("two KEYS", x.digest(), sum(1, 1, 0, 1, 3, 16, 2, 1, 2, 3, 0, 0,
            0, 99, N, 5, 0, N, N, N, N, N, N, N, N, N, N, N, N, N, 0, N, N, N, 0, 4, 2, 0, 4, 1));
    }

    private static void digestWrapsAround() {
        GapRow x = Rows.shaped(4, 4, 4, 4, 4, 4, 4, 4, 4, 4, 4, 4, 4, 4, 4, 4);
        x.puts(999, 0);
        int[] numbers = new int[12 + 128 + 16 + 24];
        int n = 0;
        for (int what = 0; what <= 4; what++) {
            numbers[n++] = x.told(what);
        }
        for (int what = 0; what <= 6; what++) {
            numbers[n++] = x.count(what);
        }
        for (int k : Rows.cells(x)) {
            numbers[n++] = k;
            numbers[n++] = x.value(k);
        }
        for (int g = 0; g < 16; g++) {
            numbers[n++] = Rows.key(g, 0);
        }
        for (int i = 0; i < 8; i++) {
            for (int what = 0; what <= 2; what++) {
                numbers[n++] = x.log(i, what);
            }
        }
        Due.is("full, with a LOG of 8", x.digest(), sum(numbers));
    }
}
