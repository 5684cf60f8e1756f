/** Promises 7 to 11, 33 and 34: sensors and what they mend. */
final class SensorsTest {
    private static final Check CHECK = new Check();

    public static void main(String[] args) {
        sensorsAreAdded();
        numbersThatAreNot();
        sensorsRead();
        neighboursTell();
        neighboursAreNear();
        howFarAnAgreementGoes();
        trustHasEnds();
        doubtedOnesAreLeftOut();
        doubtsNeedNoHoursBetween();
        leftOutOnesAreTakenBack();
        agreementsMustFollow();
        statesAreThoseAheadOfTheHour();
        cellsAreMended();
        cornersAreMended();
        cellsAreNotMended();
        shares();
        CHECK.end();
    }

    private static SmokeWard withSensors(int count) {
        SmokeWard ward = new SmokeWard();
        for (int i = 0; i < count; i++) {
            ward.addSensor(3, 3);
        }
        return ward;
    }

    private static void hourOf(SmokeWard ward, int... values) {
        for (int i = 0; i < values.length; i++) {
            if (values[i] >= 0) {
                ward.read(i, values[i]);
            }
        }
        ward.pass(1);
    }

    private static void state(SmokeWard ward, String what, int sensor, char sign, int trust) {
        CHECK.same(what + ", state", String.valueOf(ward.stateOf(sensor)), String.valueOf(sign));
        CHECK.same(what + ", trust", ward.trust(sensor), trust);
    }

    private static void sensorsAreAdded() {
        SmokeWard ward = new SmokeWard();
        for (int i = 0; i < 10; i++) {
            CHECK.same("addSensor", ward.addSensor(7, 5), i);
            state(ward, "new", i, '+', 50);
        }
        CHECK.thrown("the 11th", Check.STATE, () -> ward.addSensor(0, 0));
        CHECK.thrown("the 11th at no cell", Check.INDEX, () -> ward.addSensor(8, 0));
        SmokeWard none = new SmokeWard();
        int[][] cells = {{-1, 0}, {8, 0}, {0, -1}, {0, 6}};
        for (int[] cell : cells) {
            CHECK.thrown("addSensor at no cell", Check.INDEX, () -> none.addSensor(cell[0], cell[1]));
        }
        CHECK.same("still the first", none.addSensor(0, 0), 0);
    }

    private static void numbersThatAreNot() {
        SmokeWard ward = withSensors(2);
        int[] numbers = {-1, 2, 10, Integer.MAX_VALUE, Integer.MIN_VALUE};
        for (int number : numbers) {
            CHECK.thrown("read " + number, Check.INDEX, () -> ward.read(number, -1));
            CHECK.thrown("trust " + number, Check.INDEX, () -> ward.trust(number));
            CHECK.thrown("stateOf " + number, Check.INDEX, () -> ward.stateOf(number));
            CHECK.thrown("judged " + number, Check.INDEX, () -> ward.judged(number));
        }
    }

    private static void sensorsRead() {
        SmokeWard ward = withSensors(3);
        CHECK.same("first", ward.read(2, 0), 1);
        CHECK.same("second", ward.read(0, 9999), 2);
        CHECK.same("first anew", ward.read(2, 40), 2);
        CHECK.same("third", ward.read(1, 20), 3);
        CHECK.thrown("read -1", Check.ARGUMENT, () -> ward.read(0, -1));
        CHECK.thrown("read 10000", Check.ARGUMENT, () -> ward.read(0, 10000));
        CHECK.same("the last value counts", ward.judged(0), 30);
        ward.pass(1);
        CHECK.same("first of the next hour", ward.read(1, 5), 1);
    }

    private static void neighboursTell() {
        SmokeWard ward = withSensors(4);
        CHECK.thrown("nobody has read", Check.UNSUPPORTED, () -> ward.judged(0));
        ward.read(1, 10);
        ward.read(2, 15);
        CHECK.thrown("this one has not", Check.UNSUPPORTED, () -> ward.judged(0));
        CHECK.thrown("one neighbour", Check.UNSUPPORTED, () -> ward.judged(1));
        ward.read(0, 500);
        CHECK.same("12 and a half, cut", ward.judged(0), 12);
        ward.read(3, 2);
        CHECK.same("of three", ward.judged(0), 9);
        ward.pass(1);
        CHECK.thrown("gone with the hour", Check.UNSUPPORTED, () -> ward.judged(0));
    }

    private static void neighboursAreNear() {
        int[][] near = {{2, 1}, {6, 5}, {2, 5}, {6, 1}, {4, 3}};
        int[][] far = {{1, 3}, {7, 3}, {4, 0}, {1, 1}, {7, 5}};
        for (int i = 0; i < near.length; i++) {
            SmokeWard ward = new SmokeWard();
            ward.addSensor(4, 3);
            ward.addSensor(near[i][0], near[i][1]);
            ward.addSensor(far[i][0], far[i][1]);
            ward.read(0, 1);
            ward.read(1, 10);
            ward.read(2, 1000);
            CHECK.same("one neighbour", Check.nameOfThrown(() -> ward.judged(0)), Check.UNSUPPORTED);
            ward.addSensor(4, 3);
            ward.read(3, 20);
            CHECK.same("the far one tells nothing", ward.judged(0), 15);
        }
        SmokeWard corner = new SmokeWard();
        corner.addSensor(0, 1);
        corner.addSensor(7, 0);
        corner.addSensor(7, 0);
        corner.read(0, 1);
        corner.read(1, 1);
        corner.read(2, 1);
        CHECK.same("near in the row of places only", Check.nameOfThrown(() -> corner.judged(0)), Check.UNSUPPORTED);
    }

    private static void howFarAnAgreementGoes() {
        int[][] readings = {{100, 150, 1}, {100, 151, 0}, {100, 50, 1}, {100, 49, 0}, {10, 30, 1}, {10, 31, 0},
            {41, 61, 1}, {41, 62, 0}, {43, 64, 1}, {43, 65, 0}, {0, 20, 1}, {0, 21, 0}, {15, 0, 1}, {40, 20, 1},
            {40, 19, 0}, {9999, 5000, 1}, {9999, 4999, 0}};
        for (int[] row : readings) {
            SmokeWard ward = withSensors(3);
            hourOf(ward, row[0], row[0], row[1]);
            state(ward, row[1] + " by " + row[0], 2, row[2] == 1 ? '+' : '?', row[2] == 1 ? 60 : 30);
        }
    }

    private static void trustHasEnds() {
        SmokeWard ward = withSensors(3);
        for (int i = 0; i < 5; i++) {
            hourOf(ward, 10, 10, 10);
        }
        state(ward, "five agreements", 0, '+', 100);
        hourOf(ward, 10, 10, 10);
        state(ward, "at most 100", 0, '+', 100);
        SmokeWard wrong = withOneLeftOut();
        hourOf(wrong, 50, 50, 50, 50, 50, 150);
        state(wrong, "less also while left out, at least 0", 5, 'x', 0);
        hourOf(wrong, 50, 50, 50, 50, 50, 150);
        state(wrong, "at least 0", 5, 'x', 0);
        hourOf(wrong, 50, 50, 50, 50, 50, 50);
        state(wrong, "more trust while left out", 5, 'x', 10);
    }

    private static void doubtedOnesAreLeftOut() {
        SmokeWard ward = withSensors(4);
        hourOf(ward, 10, 10, 10, 500);
        state(ward, "doubted", 3, '?', 30);
        state(ward, "the others: told 173", 0, '?', 30);
        SmokeWard many = withSensors(6);
        hourOf(many, 50, 50, 50, 50, 50, 150);
        state(many, "doubted once", 5, '?', 30);
        state(many, "the others agree with 70", 0, '+', 60);
        hourOf(many, 50, 50, 50, 50, 50, 50);
        state(many, "agrees between", 5, '+', 40);
        hourOf(many, 50, 50, 50, 50, 50, 150);
        state(many, "doubted again", 5, '?', 20);
        hourOf(many, 50, 50, 50, 50, 50, 150);
        state(many, "twice one behind the other", 5, 'x', 0);
        many.read(0, 50);
        many.read(1, 50);
        many.read(5, 9000);
        CHECK.same("no neighbour any more", Check.nameOfThrown(() -> many.judged(0)), Check.UNSUPPORTED);
        CHECK.same("judged all the same", many.judged(5), 50);
    }

    private static void doubtsNeedNoHoursBetween() {
        SmokeWard ward = withSensors(6);
        hourOf(ward, 50, 50, 50, 50, 50, 150);
        ward.pass(3);
        state(ward, "not judged since", 5, '?', 30);
        hourOf(ward, -1, -1, -1, -1, 50, 150);
        state(ward, "one neighbour does not judge", 5, '?', 30);
        hourOf(ward, 50, 50, 50, 50, 50);
        state(ward, "it has not read", 5, '?', 30);
        hourOf(ward, 50, 50, 50, 50, 50, 150);
        state(ward, "the next hour in which it was judged", 5, 'x', 10);
    }

    private static SmokeWard withOneLeftOut() {
        SmokeWard ward = withSensors(6);
        hourOf(ward, 50, 50, 50, 50, 50, 150);
        hourOf(ward, 50, 50, 50, 50, 50, 150);
        return ward;
    }

    private static void leftOutOnesAreTakenBack() {
        SmokeWard ward = withOneLeftOut();
        hourOf(ward, 50, 50, 50, 50, 50, 50);
        state(ward, "agrees once", 5, 'x', 20);
        ward.pass(2);
        hourOf(ward, 50, 50, 50, 50, 50, 50);
        state(ward, "agrees twice", 5, 'x', 30);
        hourOf(ward, 50, 50, 50, 50, 50, 50);
        state(ward, "taken back", 5, '+', 30);
        CHECK.same("all count", ward.trustShare(), 1.0f);
        hourOf(ward, 50, 50, 50, 50, 50, 150);
        state(ward, "doubted once only", 5, '?', 10);
        ward.read(0, 50);
        ward.read(5, 80);
        ward.read(1, 20);
        CHECK.same("a neighbour again", ward.judged(1), 65);
    }

    private static void agreementsMustFollow() {
        SmokeWard ward = withOneLeftOut();
        hourOf(ward, 50, 50, 50, 50, 50, 50);
        hourOf(ward, 50, 50, 50, 50, 50, 50);
        hourOf(ward, 50, 50, 50, 50, 50, 150);
        state(ward, "a doubt between", 5, 'x', 10);
        hourOf(ward, 50, 50, 50, 50, 50, 50);
        hourOf(ward, 50, 50, 50, 50, 50, 50);
        state(ward, "only two behind it", 5, 'x', 30);
        hourOf(ward, 50, 50, 50, 50, 50, 50);
        state(ward, "three behind it", 5, '+', 30);
        SmokeWard before = withSensors(6);
        for (int i = 0; i < 4; i++) {
            hourOf(before, 50, 50, 50, 50, 50, 50);
        }
        hourOf(before, 50, 50, 50, 50, 50, 150);
        hourOf(before, 50, 50, 50, 50, 50, 150);
        state(before, "agreements ahead of it help nothing", 5, 'x', 50);
        hourOf(before, 50, 50, 50, 50, 50, 50);
        state(before, "nor behind one more", 5, 'x', 60);
        hourOf(before, 50, 50, 50, 50, 50, 50);
        hourOf(before, 50, 50, 50, 50, 50, 50);
        state(before, "less trust by being taken back", 5, '+', 30);
    }

    private static void statesAreThoseAheadOfTheHour() {
        SmokeWard ward = withSensors(3);
        hourOf(ward, 30, 30, 300);
        state(ward, "the first is doubted", 0, '?', 30);
        hourOf(ward, 30, 30, 300);
        for (int i = 0; i < 3; i++) {
            state(ward, "all are left out at once", i, 'x', 10);
        }
        hourOf(ward, 30, 30, 30);
        state(ward, "without neighbours no judgement", 2, 'x', 10);
        SmokeWard back = withSensors(8);
        hourOf(back, 50, 50, 50, 50, 50, 50, 150, 150);
        state(back, "told 71", 7, '?', 30);
        hourOf(back, 50, 50, 50, 50, 50, 50, 150, 150);
        state(back, "left out", 6, 'x', 10);
        CHECK.same("6 of 8", back.trustShare(), 0.75f);
    }

    private static void cellsAreMended() {
        SmokeWard ward = new SmokeWard();
        ward.addSensor(1, 1);
        ward.addSensor(1, 1);
        ward.addSensor(6, 4);
        hourOf(ward, 100, 51, 400);
        CHECK.same("75 by 100 of 200", ward.smoke(1, 1), 37);
        CHECK.same("400 by 50 of 150", ward.smoke(6, 4), 133);
        CHECK.same("elsewhere", ward.smoke(1, 2), 0);
        CHECK.same("mended", ward.mended(), 170);
        ward.read(2, 0);
        ward.pass(1);
        CHECK.same("133 less 6, less 42 and a third, cut to 0", ward.smoke(6, 4), 85);
        CHECK.same("less what was taken", ward.mended(), 128);
        CHECK.yes("kept", ward.isKept());
        SmokeWard weighed = withSensors(6);
        hourOf(weighed, 50, 50, 50, 50, 50, 150);
        // (5 * 60 * 50 + 30 * 150) / 330 = 59, times 330 / 430 = 45
        CHECK.same("weighted by the trusts behind the judgement", weighed.smoke(3, 3), 45);
        hourOf(weighed, 50, 50, 50, 50, 50, 150);
        // 45 - 2 = 43; (50 - 43) * 350 / 450 = 5
        CHECK.same("without the one left out in this hour", weighed.smoke(3, 3), 48);
        SmokeWard model = new SmokeWard();
        model.addSensor(2, 2);
        model.light(2, 2, 4);
        model.setWind(1, 0, 1);
        hourOf(model, 200);
        // 40 - 10 = 30, less 1 is 29; (200 - 29) * 50 / 150 = 57
        CHECK.same("behind the model", model.smoke(2, 2), 86);
        CHECK.same("not carried in this hour", model.smoke(3, 2), 10);
    }

    private static void cornersAreMended() {
        int[][] corners = {{0, 0}, {7, 0}, {0, 5}, {7, 5}};
        for (int[] corner : corners) {
            SmokeWard ward = new SmokeWard();
            ward.addSensor(corner[0], corner[1]);
            hourOf(ward, 300);
            CHECK.same("300 by 50 of 150", ward.smoke(corner[0], corner[1]), 100);
        }
    }

    private static void cellsAreNotMended() {
        SmokeWard ward = new SmokeWard();
        for (int i = 0; i < 5; i++) {
            ward.addSensor(3, 3);
        }
        ward.addSensor(4, 4);
        for (int i = 0; i < 2; i++) {
            hourOf(ward, 50, 50, 50, 50, 50, 150);
        }
        int smoke = ward.smoke(4, 4);
        hourOf(ward, -1, -1, -1, -1, -1, 9999);
        CHECK.same("not by one left out", ward.smoke(4, 4), smoke - smoke / 20);
        SmokeWard distrusted = new SmokeWard();
        for (int i = 0; i < 5; i++) {
            distrusted.addSensor(3, 3);
        }
        distrusted.addSensor(4, 4);
        int[] last = {150, 50, 150, 50, 150};
        for (int i = 0; i < last.length; i++) {
            hourOf(distrusted, 50, 50, 50, 50, 50, last[i]);
        }
        state(distrusted, "50, 30, 40, 20, 30, 10", 5, '?', 10);
        hourOf(distrusted, 50, 50, 50, 50, 50, 50);
        hourOf(distrusted, 50, 50, 50, 50, 50, 150);
        state(distrusted, "20, 0", 5, '?', 0);
        smoke = distrusted.smoke(4, 4);
        hourOf(distrusted, -1, -1, -1, -1, -1, 9999);
        CHECK.same("not by a trust of 0", distrusted.smoke(4, 4), smoke - smoke / 20);
    }

    private static void shares() {
        SmokeWard ward = new SmokeWard();
        CHECK.thrown("trustShare without sensors", Check.ARITHMETIC, () -> ward.trustShare());
        ward.addSensor(0, 0);
        CHECK.same("one of one", ward.trustShare(), 1.0f);
        SmokeWard six = withOneLeftOut();
        CHECK.same("five of six", six.trustShare(), 5.0f / 6.0f);
        SmokeWard none = withSensors(3);
        hourOf(none, 30, 30, 300);
        CHECK.same("doubted ones count", none.trustShare(), 1.0f);
        hourOf(none, 30, 30, 300);
        CHECK.same("none of three", none.trustShare(), 0.0f);
    }
}
