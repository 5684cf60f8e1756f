/** Counts answers that are not due, and prints them. */
final class Check {
    static final String NOTHING = "nothing";
    static final String INDEX = "IndexOutOfBoundsException";
    static final String ARGUMENT = "IllegalArgumentException";
    static final String STATE = "IllegalStateException";
    static final String UNSUPPORTED = "UnsupportedOperationException";
    static final String ARITHMETIC = "ArithmeticException";

    private static final int SHOWN = 20;

    interface Call {
        void go();
    }

    private int wrong = 0;
    private String words = "";

    /** What is checked from now on is told with these words ahead. */
    void under(String newWords) {
        words = newWords + ": ";
    }

    void same(String what, long got, long due) {
        if (got != due) {
            tell(what, Long.toString(got), Long.toString(due));
        }
    }

    void same(String what, double got, double due) {
        if (got != due) {
            tell(what, Double.toString(got), Double.toString(due));
        }
    }

    void same(String what, String got, String due) {
        if (!got.equals(due)) {
            tell(what, got, due);
        }
    }

    void yes(String what, boolean got) {
        same(what, Boolean.toString(got), "true");
    }

    void no(String what, boolean got) {
        same(what, Boolean.toString(got), "false");
    }

    void thrown(String what, String due, Call call) {
        same(what + " throws", nameOfThrown(call), due);
    }

    /** Of two objects made alike, one is used: both are still alike, and so they go on. */
    void unchanged(String what, Made.Maker maker, Made.Use use) {
        SmokeWard used = maker.make();
        String name = nameOfThrown(() -> use.of(used));
        String[] got = Picture.ofAllAndNext(used).split("\n");
        String[] due = Picture.ofAllAndNext(maker.make()).split("\n");
        same(what + " (threw " + name + ") left lines", got.length, due.length);
        for (int i = 0; i < Math.min(got.length, due.length); i++) {
            same(what + " (threw " + name + ") left in line " + i, got[i], due[i]);
        }
    }

    static String nameOfThrown(Call call) {
        try {
            call.go();
            return NOTHING;
        } catch (RuntimeException e) {
            return e.getClass().getSimpleName();
        }
    }

    void end() {
        if (wrong > 0) {
            System.out.println(wrong + " answers are not as due");
            System.exit(1);
        }
    }

    private void tell(String what, String got, String due) {
        wrong++;
        if (wrong > SHOWN) {
            return;
        }
        System.out.println(words + what + ": " + got + ", due is " + due);
    }
}
