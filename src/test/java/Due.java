/** What the tests share: it tells each answer that is not as due, and ends with 1 if there was one. */
final class Due {
    private static int wrong = 0;

    private Due() {
    }

    static void is(String call, long got, long want) {
        if (got != want) {
            wrong++;
            System.out.println(call + " answered " + got + ", due is " + want);
        }
    }

    static void holds(String what, boolean good) {
        if (!good) {
            wrong++;
            System.out.println("does not hold: " + what);
        }
    }

    /** The KEYS of the CELLS 0 on; NONE where one is empty. Cells behind those given are not asked. */
    static void cells(String when, GapRow x, int... keys) {
        for (int c = 0; c < keys.length; c++) {
            is(when + ": at(" + c + ")", x.at(c), keys[c]);
        }
    }

    static void type(GapRow x, String text) {
        x.clear();
        for (int i = 0; i < text.length(); i++) {
            x.type(text.charAt(i));
        }
    }

    static int does(GapRow x, String text) {
        type(x, text);
        return x.does();
    }

    static void end() {
        System.out.println(wrong == 0 ? "all as due" : wrong + " not as due");
        if (wrong != 0) {
            System.exit(1);
        }
    }
}
