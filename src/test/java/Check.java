/** Counts answers that are not due, and prints them. */
final class Check {
    static final String NOTHING = "nothing";
    static final String INDEX = "IndexOutOfBoundsException";
    static final String ARGUMENT = "IllegalArgumentException";
    static final String STATE = "IllegalStateException";
    static final String UNSUPPORTED = "UnsupportedOperationException";
    static final String ARITHMETIC = "ArithmeticException";

    private static final int SHOWN = 20;

    interface Call {
        void go();
    }

    private int wrong = 0;

    void same(String what, long got, long due) {
        if (got != due) {
            tell(what, Long.toString(got), Long.toString(due));
        }
    }

    void same(String what, double got, double due) {
        if (got != due) {
            tell(what, Double.toString(got), Double.toString(due));
        }
    }

    void same(String what, String got, String due) {
        if (!got.equals(due)) {
            tell(what, got, due);
        }
    }

    void yes(String what, boolean got) {
        if (!got) {
            tell(what, "false", "true");
        }
    }

    void no(String what, boolean got) {
        if (got) {
            tell(what, "true", "false");
        }
    }

    /** Also looks that a call that throws changed nothing that the face tells. */
    void thrown(SmokeWard ward, String what, String due, Call call) {
        String before = Picture.of(ward);
        same(what + " throws", nameOfThrown(call), due);
        same(what + " changes nothing", Picture.of(ward), before);
    }

    static String nameOfThrown(Call call) {
        try {
            call.go();
            return NOTHING;
        } catch (RuntimeException e) {
            return e.getClass().getSimpleName();
        }
    }

    void end() {
        if (wrong > 0) {
            System.out.println(wrong + " answers are not as due");
            System.exit(1);
        }
    }

    private void tell(String what, String got, String due) {
        wrong++;
        if (wrong > SHOWN) {
            return;
        }
        System.out.println(what + ": " + got + ", due is " + due);
    }
}
