/** Holds calls to the ranges that the document names for their arguments. */
final class Arguments {
    private static final int MOST_TO_TRY = 128;

    interface Call {
        void with(SmokeWard ward, int argument);
    }

    interface CellCall {
        void at(SmokeWard ward, int x, int y);
    }

    interface CellUse {
        void at(int x, int y);
    }

    private final Sentences sentences;
    private final Check check;

    Arguments(Sentences sentences) {
        this.sentences = sentences;
        check = sentences.check;
    }

    /** The numbers of the range are taken, those just beyond it and the farthest ones are refused. */
    void range(int least, int most, String due, Made.Maker maker, Call call) {
        for (int number = least; number <= most; number++) {
            if (number - least < MOST_TO_TRY || most - number < MOST_TO_TRY) {
                one(number, Check.NOTHING, maker, call);
            }
        }
        beyond(least, most, due, maker, call);
    }

    void beyond(int least, int most, String due, Made.Maker maker, Call call) {
        int[] numbers = {least - 1, most + 1, Integer.MIN_VALUE, Integer.MAX_VALUE};
        for (int number : numbers) {
            one(number, due, maker, call);
        }
    }

    private void one(int number, String due, Made.Maker maker, Call call) {
        SmokeWard ward = maker.make();
        check.thrown("with " + number, due, () -> call.with(ward, number));
    }

    /** The document's lines on the arguments x and y. */
    void cell(CellCall call) {
        sentences.hold("- `x`: the x, 0 to 7",
            () -> range(0, 7, Check.INDEX, SmokeWard::new, (ward, x) -> call.at(ward, x, 5)));
        sentences.hold("- `y`: the y, 0 to 5",
            () -> range(0, 5, Check.INDEX, SmokeWard::new, (ward, y) -> call.at(ward, 7, y)));
    }

    /** The document's line on the exception where there is no such cell. */
    void noCell(CellCall call) {
        int[][] cells = {{-1, -1}, {-1, 0}, {0, -1}, {8, 0}, {7, -1}, {0, 6}, {-1, 5}, {8, 5}, {7, 6}, {8, 6},
            {-8, 1}, {16, 0}, {Integer.MIN_VALUE, 0}, {0, Integer.MAX_VALUE}, {Integer.MAX_VALUE, Integer.MIN_VALUE}};
        sentences.hold("Throws `IndexOutOfBoundsException` if there is no such cell", () -> {
            for (int[] cell : cells) {
                check.thrown("at " + cell[0] + ", " + cell[1], Check.INDEX,
                    () -> call.at(new SmokeWard(), cell[0], cell[1]));
            }
        });
    }
}
