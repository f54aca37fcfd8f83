/** Promises 17 to 22: type, clear, does, back, told, digest. The answers are worked out by hand. */
public final class TextsTest {
    private static final int N = GapRow.NONE;

    private static void type() {
        GapRow x = new GapRow();
        Due.is("type(0)", x.type(0), 1);
        Due.is("type(127)", x.type(127), 2);
        int[] bad = {-1, 128, Integer.MIN_VALUE, Integer.MAX_VALUE};
        for (int b : bad) {
            Due.is("type(" + b + ")", x.type(b), GapRow.BAD);
        }
        Due.is("told(0)", x.told(0), bad.length);
        for (int n = 3; n <= 120; n++) {
            Due.is("byte " + n, x.type(' '), n);
        }
        Due.is("byte 121", x.type(' '), GapRow.FULL);
        Due.is("BAD goes ahead of FULL", x.type(128), GapRow.BAD);
        Due.is("told(2)", x.told(2), 1);
        Due.is("told(3)", x.told(3), 120);
        Due.is("no states", x.told(4), 0);
    }

    private static void clear() {
        GapRow x = new GapRow();
        Due.is("clear() of none", x.clear(), 0);
        Due.type(x, "t 5;");
        Due.is("told(3)", x.told(3), 4);
        Due.is("clear()", x.clear(), 4);
        Due.is("told(3) then", x.told(3), 0);
        Due.is("type() then", x.type('p'), 1);
        Due.is("no states", x.told(4), 0);
    }

    private static void reads(String text, int orders) {
        GapRow x = new GapRow();
        Due.is("does '" + text + "'", Due.does(x, text), orders);
        Due.is("the text stays", x.told(3), text.length());
        Due.is("one state for all", x.told(4), 1);
    }

    private static void faultAt(String text, int place) {
        GapRow x = new GapRow();
        x.puts(5, 5);
        long spacings = x.count(3);
        Due.is("does '" + text + "'", Due.does(x, text), -10 - place);
        Due.is("no state by '" + text + "'", x.told(4), 1);
        Due.is("nothing done by '" + text + "'", x.count(3), spacings);
        Due.is("nothing counted by '" + text + "'", x.told(0) + x.told(1) + x.told(2), 0);
    }

    private static void readsWell() {
        reads("p1 2;", 1);
        reads("p 001 02 ;", 1);
        reads("  p  999   99  ;  ", 1);
        reads("m0;", 1);
        reads("m 1 ; m0;m 001;", 3);
        reads("d0 999;", 1);
        reads("p1 1;t1;p1 1;t1;d0 0;m1;", 6);
        StringBuilder most = new StringBuilder();
        for (int n = 0; n < 40; n++) {
            most.append("m1;");
        }
        reads(most.toString(), 40);
    }

    private static void faults() {
        faultAt("", 0);
        faultAt("   ", 3);
        faultAt("p", 1);
        faultAt("p 1", 3);
        faultAt("p 1 2", 5);
        faultAt("p 1 2 ", 6);
        faultAt("p 1 2; t", 8);
        faultAt("p1 1;t5", 7);
        faultAt("x", 0);
        faultAt(" P1 1;", 1);
        faultAt(";", 0);
        faultAt("5", 0);
        faultAt("p1 1;;", 5);
        faultAt("p;", 1);
        faultAt("p1;", 2);
        faultAt("t;", 1);
        faultAt("t 1 2;", 4);
        faultAt("m1 ,;", 3);
        faultAt("p1 2 3;", 5);
        faultAt("p1 2p", 4);
        faultAt("pp", 1);
        faultAt("p1234 1;", 4);
        faultAt("p1 1000;", 6);
        faultAt("t0000;", 4);
        faultAt("t-1;", 1);
        faultAt("t1\n;", 2);
        faultAt("t1;\u0000", 3);
        faultAt("d1,2;", 2);
        // A fault goes ahead of an ORDER that would be refused.
        faultAt("t9;m5;p", 7);
    }

    private static void endsAll(String text, int order) {
        GapRow x = new GapRow();
        x.puts(5, 5);
        x.puts(6, 6);
        int[] counts = new int[7];
        for (int what = 0; what <= 6; what++) {
            counts[what] = x.count(what);
        }
        Due.is("does '" + text + "'", Due.does(x, text), -1000 - order);
        for (int what = 0; what <= 6; what++) {
            Due.is("count(" + what + ") after '" + text + "'", x.count(what), counts[what]);
        }
        Due.cells("after '" + text + "'", x, 5, N, 6, N);
        Due.is("value(5)", x.value(5), 5);
        Due.is("log(2, 0)", x.log(2, 0), N);
        Due.is("no state by it", x.told(4), 2);
        Due.is("nothing counted", x.told(0) + x.told(1) + x.told(2), 0);
        Due.is("the text stays", x.told(3), text.length());
    }

    private static void ordersThatEndAll() {
        endsAll("t 4;", 0);
        endsAll("p 1 100;", 0);
        endsAll("m 2;", 0);
        endsAll("d 2 1;", 0);
        endsAll("p 5 0; p 7 7; m 1; d 0 6; t 7; t 5;", 5);
        endsAll("t5;t5;", 1);
        endsAll("p7 7;p8 8;p9 9;t9;m1;m2;", 5);
    }

    private static void refusedAsItIsThen() {
        GapRow x = new GapRow();
        Due.is("an order may rest on one ahead", Due.does(x, "p1 1;t1;"), 2);
        Due.is("count(1)", x.count(1), 0);
        Due.is("count(3)", x.count(3), 2);
        GapRow y = new GapRow();
        for (int k = 0; k < 48; k++) {
            y.puts(10 * k, 0);
        }
        y.spaces();
        for (int g = 0; g < 15; g++) {
            y.puts(30 * g + 25, 0);
        }
        int states = y.told(4);
        Due.is("FULL ends all", Due.does(y, "p475 0;p476 0;"), -1001);
        Due.is("told(2)", y.told(2), 0);
        Due.is("told(4)", y.told(4), states);
        Due.is("cell(475)", y.cell(475), N);
        Due.is("room is made ahead", Due.does(y, "p475 0;t 475; p476 0;"), 3);
    }

    private static void doesAll() {
        GapRow x = new GapRow();
        GapRow y = new GapRow();
        Due.is("does()", Due.does(x, "p1 2;m1;p3 4;p1 5;t3;d0 0;"), 6);
        y.puts(1, 2);
        y.mode(1);
        y.puts(3, 4);
        y.puts(1, 5);
        y.takes(3);
        y.drops(0, 0);
        for (int what = 0; what <= 6; what++) {
            Due.is("count(" + what + ") as by calls", x.count(what), y.count(what));
        }
        Due.is("value(1)", x.value(1), 5);
        Due.is("does() again", x.does(), 6);
        Due.is("told(4)", x.told(4), 2);
        Due.is("back()", x.back(), 1);
        Due.is("back() to nothing", x.back(), 0);
        Due.is("count(1)", x.count(1), 0);
        Due.is("the text is no part of a state", x.told(3), 26);
    }

    private static void back() {
        GapRow x = new GapRow();
        Due.is("none", x.back(), GapRow.NO);
        Due.is("told(1)", x.told(1), 1);
        for (int k = 1; k <= 7; k++) {
            x.puts(k, k);
        }
        Due.is("5 at most", x.told(4), 5);
        x.takes(900);
        x.type('p');
        for (int left = 4; left >= 0; left--) {
            Due.is("back()", x.back(), left);
            Due.is("told(4)", x.told(4), left);
            Due.is("keys", x.count(1), left + 2);
            Due.is("spacings", x.count(3), left + 2);
            Due.is("log kept", x.log(left + 2, 0), N);
            Due.is("log kept so far", x.log(left + 1, 0), 0);
        }
        Due.is("older ones are lost", x.back(), GapRow.NO);
        Due.is("how often refused stays", x.told(1), 3);
        Due.is("the text stays", x.told(3), 1);
        Due.cells("two are left", x, 1, N, 2, N);
        Due.is("a call goes on from there", x.puts(9, 9), 2);
        Due.is("told(4) then", x.told(4), 1);
        x.mode(1);
        x.mode(1);
        x.back();
        x.back();
        Due.is("mode is back", x.count(2), 0);
    }

    private static void doesLosesTheOldestOnlyIfDone() {
        GapRow x = new GapRow();
        // More than 5, so that older STATES have been lost already.
        for (int k = 1; k <= 7; k++) {
            x.puts(k, k);
        }
        Due.is("ended", Due.does(x, "p8 8;t9;"), -1001);
        Due.is("a fault", Due.does(x, "p8 8"), -14);
        for (int left = 4; left >= 0; left--) {
            Due.is("back()", x.back(), left);
            Due.is("count(1)", x.count(1), left + 2);
        }
    }

    private static void told() {
        GapRow x = new GapRow();
        x.at(16);
        x.takes(1);
        x.value(1);
        x.back();
        Due.type(x, "m1;m1;");
        x.does();
        int[] due = {1, 3, 0, 6, 1};
        for (int what = 0; what < due.length; what++) {
            Due.is("told(" + what + ")", x.told(what), due[what]);
        }
        for (int what : new int[] {-1, 5, Integer.MIN_VALUE, Integer.MAX_VALUE}) {
            Due.is("told(" + what + ")", x.told(what), GapRow.BAD);
        }
        Due.is("told(0) counts them", x.told(0), 5);
    }

    private static long sum(GapRow x, int logged) {
        long h = 1837;
        for (int what = 0; what <= 4; what++) {
            h = 31 * h + x.told(what);
        }
        for (int what = 0; what <= 6; what++) {
            h = 31 * h + x.count(what);
        }
        int size = x.count(0);
        for (int c = 0; c < size; c++) {
            h = 31 * h + x.at(c);
            if (x.at(c) != N) {
                h = 31 * h + x.value(x.at(c));
            }
        }
        for (int g = 0; g < size / 4; g++) {
            h = 31 * h + x.index(g);
        }
        for (int i = 0; i < logged; i++) {
            h = ((31 * h + x.log(i, 0)) * 31 + x.log(i, 1)) * 31 + x.log(i, 2);
        }
        return h;
    }

    private static void digest() {
        GapRow x = new GapRow();
        // 5 zeros, 16, 6 zeros, 16 empty CELLS, 4 empty SEGMENTS.
        long h = 1837;
        int[] row = {0, 0, 0, 0, 0, 16, 0, 0, 0, 0, 0, 0};
        for (int v : row) {
            h = 31 * h + v;
        }
        for (int n = 0; n < 20; n++) {
            h = 31 * h - 1;
        }
        Due.is("digest() of a new object", x.digest(), h);
        Due.is("digest() changes nothing", x.digest(), h);
        x.puts(5, 0);
        Due.is("with a key", x.digest(), sum(x, 1));
        x.at(-1);
        x.value(6);
        Due.is("with refusals", x.digest(), sum(x, 1));
        x.mode(1);
        for (int k = 0; k < 40; k++) {
            x.puts(7 * k, k);
        }
        Due.type(x, "p1");
        Due.is("at 64, with a log of 8", x.digest(), sum(x, 8));
        x.drops(0, 270);
        Due.is("when most went", x.digest(), sum(x, 8));
    }

    public static void main(String[] args) {
        type();
        clear();
        readsWell();
        faults();
        ordersThatEndAll();
        refusedAsItIsThen();
        doesAll();
        back();
        doesLosesTheOldestOnlyIfDone();
        told();
        digest();
        Due.end();
    }
}
