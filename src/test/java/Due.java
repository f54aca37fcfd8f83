/** What the tests share: it tells each answer that is not as due, and ends with 1 if there was one. */
final class Due {
    private static int wrong = 0;
    private static String sentence = "";

    private Due() {
    }

    /** The words of the document that the answers from here on are due by. */
    static void by(String words) {
        sentence = "[" + words + "] ";
    }

    static void is(String call, long got, long want) {
        if (got != want) {
            wrong++;
            System.out.println(sentence + call + " answered " + got + ", due is " + want);
        }
    }

    static void holds(String what, boolean good) {
        if (!good) {
            wrong++;
            System.out.println(sentence + "does not hold: " + what);
        }
    }

    /** The KEYS of the CELLS 0 on; NONE where one is empty. Cells behind those given are not asked. */
    static void cells(String when, GapRow x, int... keys) {
        cellsFrom(0, when, x, keys);
    }

    static void cellsFrom(int from, String when, GapRow x, int... keys) {
        for (int c = 0; c < keys.length; c++) {
            is(when + ": at(" + (from + c) + ")", x.at(from + c), keys[c]);
        }
    }

    /** The latest SPACING in the LOG. */
    static void latest(String when, GapRow x, int from, int cells, int moves) {
        is(when + ": log(0, 0)", x.log(0, 0), from);
        is(when + ": log(0, 1)", x.log(0, 1), cells);
        is(when + ": log(0, 2)", x.log(0, 2), moves);
    }

    static void type(GapRow x, String text) {
        x.clear();
        for (int i = 0; i < text.length(); i++) {
            x.type(text.charAt(i));
        }
    }

    static int does(GapRow x, String text) {
        type(x, text);
        return x.does();
    }

    static void end() {
        System.out.println(wrong == 0 ? "all as due" : wrong + " not as due");
        if (wrong != 0) {
            System.exit(1);
        }
    }
}
