/** Sensors: their neighbours, their trust, what they mend. Promises 7 to 11, 33 and 34. */
final class SensorEdges {
    private static final String NO_SENSOR = "Throws `IndexOutOfBoundsException` if there is no such sensor";
    private static final String NUMBER = "- `sensor`: the number of the sensor";

    private final Sentences sentences;
    private final Check check;
    private final Arguments arguments;

    SensorEdges(Sentences sentences) {
        this.sentences = sentences;
        check = sentences.check;
        arguments = new Arguments(sentences);
    }

    void all() {
        step();
        judging();
        mending();
        addSensor();
        read();
        trust();
        stateOf();
        judged();
        mended();
        trustShare();
    }

    private void state(String what, SmokeWard ward, int sensor, char sign, int trust) {
        check.same(what + ", state of " + sensor, String.valueOf(ward.stateOf(sensor)), String.valueOf(sign));
        check.same(what + ", trust of " + sensor, ward.trust(sensor), trust);
    }

    private void step() {
        sentences.in("Terms");
        sentences.hold("6. Sensors, as told below.", this::behindTheModel);
        sentences.hold("what sensors have read is gone.", this::readingsAreGone);
    }

    private void behindTheModel() {
        SmokeWard ward = new SmokeWard();
        ward.addSensor(2, 2);
        ward.light(2, 2, 4);
        ward.setWind(1, 0, 1);
        Made.hourOf(ward, 200);
        // 40, of which 10 are carried and 1 settles; (200 - 29) * 50 / 150 = 57
        check.same("burnt, carried, settled, then mended", ward.smoke(2, 2), 86);
        check.same("not carried in this hour", ward.smoke(3, 2), 10);
    }

    private void readingsAreGone() {
        SmokeWard ward = Made.withSensors(3);
        for (int i = 0; i < 3; i++) {
            ward.read(i, 300);
        }
        ward.pass(1);
        check.thrown("judged in the next hour", Check.UNSUPPORTED, () -> ward.judged(0));
        check.same("the first to read in the next hour", ward.read(2, 5), 1);
        SmokeWard two = Made.withSensors(1);
        two.read(0, 300);
        two.pass(2);
        check.same("in the first hour of two alone: 100 less 5", two.smoke(3, 3), 95);
    }

    private void judging() {
        sentences.hold("Sensors. Neighbours of a sensor are others not more than 2 away in x and in y, "
            + "also in the same cell, that have read in this hour and are not left out.", this::neighbours);
        sentences.hold("One that has read, and has 2 neighbours at least, is judged by their mean, cut:",
            this::whoIsJudged);
        sentences.hold("it agrees if it is not away from it by more than half of it, cut, or by not more than 20; "
            + "otherwise it is doubted.", this::howFarAnAgreementGoes);
        sentences.hold("All are judged by the states ahead of this.", this::judgedByStatesAhead);
        sentences.hold("One that agrees, also of those left out, has 10 more trust, at most 100,", this::moreTrust);
        sentences.hold("one that is doubted 20 less, at least 0.", this::lessTrust);
        sentences.hold("One that counts is left out if it is doubted in 2 hours in which it was judged, "
            + "one behind the other;", this::leftOut);
        sentences.hold("one that is left out counts again, with the trust 30, if it agrees in 3 such hours "
            + "one behind the other.", this::takenBack);
    }

    private void neighbours() {
        int[][] centres = {{3, 3}, {4, 2}, {0, 0}, {7, 0}, {0, 5}, {7, 5}};
        for (int[] centre : centres) {
            for (int place = 0; place < 48; place++) {
                int x = place % 8;
                int y = place / 8;
                SmokeWard ward = new SmokeWard();
                ward.addSensor(centre[0], centre[1]);
                ward.addSensor(x, y);
                ward.addSensor(x, y);
                for (int i = 0; i < 3; i++) {
                    ward.read(i, 10 + i);
                }
                boolean near = Math.abs(x - centre[0]) <= 2 && Math.abs(y - centre[1]) <= 2;
                check.thrown("of " + centre[0] + ", " + centre[1] + " in " + x + ", " + y,
                    near ? Check.NOTHING : Check.UNSUPPORTED, () -> ward.judged(0));
            }
        }
        SmokeWard others = Made.withSensors(2);
        others.read(0, 10);
        others.read(1, 10);
        check.thrown("it is not its own", Check.UNSUPPORTED, () -> others.judged(0));
        SmokeWard silent = Made.withSensors(3);
        Made.hourOf(silent, 10, 10, 10);
        silent.read(0, 10);
        silent.read(1, 10);
        check.thrown("one read in the hour before", Check.UNSUPPORTED, () -> silent.judged(0));
        SmokeWard left = Made.withOneLeftOut();
        left.read(0, 10);
        left.read(1, 30);
        left.read(5, 50);
        check.thrown("one is left out", Check.UNSUPPORTED, () -> left.judged(0));
        left.read(2, 20);
        check.same("without the one left out", left.judged(0), 25);
        check.same("of the one left out", left.judged(5), 20);
    }

    private void whoIsJudged() {
        SmokeWard alone = Made.withSensors(1);
        Made.hourOf(alone, 500);
        state("without a neighbour", alone, 0, '+', 50);
        SmokeWard two = Made.withSensors(2);
        Made.hourOf(two, 500, 500);
        state("with one neighbour", two, 0, '+', 50);
        SmokeWard three = Made.withSensors(3);
        Made.hourOf(three, 500, 500, 500);
        state("with two", three, 0, '+', 60);
        SmokeWard silent = Made.withSensors(4);
        Made.hourOf(silent, 500, 500, 500);
        state("one that has not read", silent, 3, '+', 50);
        SmokeWard cut = Made.withSensors(4);
        // The mean of 100, 100 and 102 is 100 and two thirds: cut it is 100, and 151 is one too far.
        Made.hourOf(cut, 100, 100, 102, 151);
        state("the mean is cut", cut, 3, '?', 30);
    }

    private void howFarAnAgreementGoes() {
        int[][] readings = {{100, 150, 1}, {100, 151, 0}, {100, 50, 1}, {100, 49, 0}, {10, 30, 1}, {10, 31, 0},
            {40, 60, 1}, {40, 61, 0}, {40, 20, 1}, {40, 19, 0}, {41, 61, 1}, {41, 62, 0}, {42, 63, 1}, {42, 64, 0},
            {43, 64, 1}, {43, 65, 0}, {0, 0, 1}, {0, 20, 1}, {0, 21, 0}, {20, 0, 1}, {21, 0, 0}, {9999, 5000, 1},
            {9999, 4999, 0}, {9999, 9999, 1}, {6666, 9999, 1}, {6665, 9997, 1}, {6665, 9998, 0}, {0, 9999, 0}};
        for (int[] row : readings) {
            SmokeWard ward = Made.withSensors(3);
            Made.hourOf(ward, row[0], row[0], row[1]);
            state(row[1] + " by " + row[0], ward, 2, row[2] == 1 ? '+' : '?', row[2] == 1 ? 60 : 30);
        }
    }

    private void judgedByStatesAhead() {
        SmokeWard ward = Made.withSensors(3);
        for (int hour = 0; hour < 2; hour++) {
            Made.hourOf(ward, 30, 30, 300);
        }
        for (int i = 0; i < 3; i++) {
            state("left out at once", ward, i, 'x', 10);
        }
        // 50 agrees with 100, the mean of the four others, but not with 107; the first one, taken back in this hour
        // with 135, is not yet a neighbour. So is 49 doubted by 100, but would not be by 89.
        backInThisHour(135, 50, '+', 100);
        backInThisHour(45, 49, '?', 70);
    }

    private void backInThisHour(int back, int reading, char sign, int trust) {
        SmokeWard ward = Made.withSensors(6);
        for (int hour = 0; hour < 2; hour++) {
            Made.hourOf(ward, 150, 50, 50, 50, 50, 50);
        }
        for (int hour = 0; hour < 2; hour++) {
            Made.hourOf(ward, 50, 50, 50, 50, 50, 50);
        }
        state("left out until now", ward, 0, 'x', 30);
        Made.hourOf(ward, back, 100, 100, 100, 100, reading);
        state("back", ward, 0, '+', 30);
        state("by the four others", ward, 5, sign, trust);
    }

    private void moreTrust() {
        SmokeWard ward = Made.withSensors(3);
        int[] due = {60, 70, 80, 90, 100, 100, 100};
        for (int trust : due) {
            Made.hourOf(ward, 10, 10, 10);
            state("agreeing on", ward, 0, '+', trust);
        }
        SmokeWard left = Made.withOneLeftOut();
        Made.hourOf(left, 50, 50, 50, 50, 50, 50);
        state("also one left out", left, 5, 'x', 20);
    }

    private void lessTrust() {
        SmokeWard ward = Made.withOneLeftOut();
        state("doubted twice", ward, 5, 'x', 10);
        Made.hourOf(ward, 50, 50, 50, 50, 50, 150);
        state("10 less 20", ward, 5, 'x', 0);
        Made.hourOf(ward, 50, 50, 50, 50, 50, 150);
        state("0 less 20", ward, 5, 'x', 0);
        SmokeWard counting = Made.withSensors(6);
        int[] readings = {150, 50, 150, 50, 150, 50, 150};
        int[] due = {30, 40, 20, 30, 10, 20, 0};
        for (int i = 0; i < readings.length; i++) {
            Made.hourOf(counting, 50, 50, 50, 50, 50, readings[i]);
            state("reading " + readings[i], counting, 5, readings[i] == 150 ? '?' : '+', due[i]);
        }
    }

    private void leftOut() {
        SmokeWard ward = Made.withSensors(6);
        Made.hourOf(ward, 50, 50, 50, 50, 50, 150);
        state("once", ward, 5, '?', 30);
        Made.hourOf(ward, 50, 50, 50, 50, 50, 150);
        state("twice", ward, 5, 'x', 10);
        state("the others", ward, 0, '+', 70);
        SmokeWard between = Made.withSensors(6);
        Made.hourOf(between, 50, 50, 50, 50, 50, 150);
        Made.hourOf(between, 50, 50, 50, 50, 50, 50);
        Made.hourOf(between, 50, 50, 50, 50, 50, 150);
        state("not one behind the other", between, 5, '?', 20);
        SmokeWard unjudged = Made.withSensors(6);
        Made.hourOf(unjudged, 50, 50, 50, 50, 50, 150);
        unjudged.pass(24);
        Made.hourOf(unjudged, -1, -1, -1, -1, 50, 150);
        Made.hourOf(unjudged, 50, 50, 50, 50, 50);
        state("not judged since", unjudged, 5, '?', 30);
        Made.hourOf(unjudged, 50, 50, 50, 50, 50, 150);
        state("hours without a judgement do not part them", unjudged, 5, 'x', 10);
    }

    private void takenBack() {
        SmokeWard ward = Made.withOneLeftOut();
        Made.hourOf(ward, 50, 50, 50, 50, 50, 50);
        state("once", ward, 5, 'x', 20);
        Made.hourOf(ward, 50, 50, 50, 50, 50, 50);
        state("twice", ward, 5, 'x', 30);
        ward.pass(24);
        Made.hourOf(ward, 50, -1, -1, -1, -1, 50);
        Made.hourOf(ward, 50, 50, 50, 50, 50);
        state("not judged since", ward, 5, 'x', 30);
        Made.hourOf(ward, 50, 50, 50, 50, 50, 50);
        state("the third time", ward, 5, '+', 30);
        Made.hourOf(ward, 50, 50, 50, 50, 50, 150);
        state("doubts from before do not count", ward, 5, '?', 10);
        Made.hourOf(ward, 50, 50, 50, 50, 50, 150);
        state("left out again", ward, 5, 'x', 0);
        Made.hourOf(ward, 50, 50, 50, 50, 50, 50);
        state("agreements from before do not count", ward, 5, 'x', 10);
        SmokeWard between = Made.withOneLeftOut();
        int[] readings = {50, 50, 150, 50, 50};
        for (int reading : readings) {
            Made.hourOf(between, 50, 50, 50, 50, 50, reading);
            check.same("not one behind the other", String.valueOf(between.stateOf(5)), "x");
        }
        state("20, 30, 10, 20, 30", between, 5, 'x', 30);
        Made.hourOf(between, 50, 50, 50, 50, 50, 50);
        state("the third behind the doubt", between, 5, '+', 30);
        SmokeWard trusted = Made.withSensors(6);
        int[] all = {50, 50, 50, 50, 50, 150, 150, 50, 50, 50};
        int[] due = {60, 70, 80, 90, 100, 80, 60, 70, 80, 30};
        for (int i = 0; i < all.length; i++) {
            Made.hourOf(trusted, 50, 50, 50, 50, 50, all[i]);
            state("hour " + i, trusted, 5, i < 5 || i == 9 ? '+' : i == 5 ? '?' : 'x', due[i]);
        }
    }

    private void mending() {
        sentences.hold("Then, by states and trusts as they are behind that, each cell in which sensors have read "
            + "that are not left out, is mended:", this::whichCellsAreMended);
        sentences.hold("by the mean of these, weighted by their trusts, cut, less its smoke, times the sum of the trusts, "
            + "divided by 100 more than this sum, cut towards 0;", this::howCellsAreMended);
        sentences.hold("cells whose sum of trusts is 0 are not.", this::notByATrustOfNone);
    }

    private void whichCellsAreMended() {
        for (int place = 0; place < 48; place++) {
            SmokeWard ward = new SmokeWard();
            ward.addSensor(place % 8, place / 8);
            Made.hourOf(ward, 300);
            for (int other = 0; other < 48; other++) {
                check.same("by one in " + place + ", in " + other, ward.smoke(other % 8, other / 8),
                    other == place ? 100 : 0);
            }
        }
        SmokeWard unread = Made.withSensors(1);
        unread.pass(1);
        check.same("it has not read", unread.smoke(3, 3), 0);
        SmokeWard weighed = Made.withSensors(6);
        Made.hourOf(weighed, 50, 50, 50, 50, 50, 150);
        // (5 * 60 * 50 + 30 * 150) / 330 = 59, times 330 / 430 = 45
        check.same("by trusts behind the judgement", weighed.smoke(3, 3), 45);
        Made.hourOf(weighed, 50, 50, 50, 50, 50, 150);
        // 45 - 2 = 43; (50 - 43) * 350 / 450 = 5
        check.same("without the one left out in this hour", weighed.smoke(3, 3), 48);
        Made.hourOf(weighed, -1, -1, -1, -1, -1, 9999);
        check.same("one left out alone: 48 less 2", weighed.smoke(3, 3), 46);
        SmokeWard back = Made.withOneLeftOut();
        Made.hourOf(back, 50, 50, 50, 50, 50, 50);
        Made.hourOf(back, 50, 50, 50, 50, 50, 50);
        int smoke = back.smoke(3, 3);
        smoke -= smoke / 20;
        Made.hourOf(back, 50, 50, 50, 50, 50, 70);
        // (5 * 100 * 50 + 30 * 70) / 530 = 51
        check.same("with the one taken back in this hour", back.smoke(3, 3), smoke + (51 - smoke) * 530 / 630);
    }

    private void howCellsAreMended() {
        SmokeWard two = Made.withSensors(2);
        Made.hourOf(two, 100, 51);
        // The mean, 75 and a half, is cut; 75 * 100 / 200 = 37 and a half
        check.same("by two of 50", two.smoke(3, 3), 37);
        SmokeWard down = Made.withSmoke(3, 3, 19);
        Made.hourOf(down, 0);
        check.same("less 6 and a third, cut towards 0", down.smoke(3, 3), 13);
        Made.hourOf(down, 12);
        check.same("less a third, cut towards 0", down.smoke(3, 3), 13);
        Made.hourOf(down, 13);
        check.same("what it is", down.smoke(3, 3), 13);
        Made.hourOf(down, 15);
        check.same("more two thirds, cut towards 0", down.smoke(3, 3), 13);
        Made.hourOf(down, 16);
        check.same("more 1", down.smoke(3, 3), 14);
        SmokeWard most = Made.withSensors(10);
        for (int hour = 0; hour < 5; hour++) {
            Made.hourOf(most, 0, 0, 0, 0, 0, 0, 0, 0, 0, 0);
        }
        state("the greatest trust", most, 9, '+', 100);
        Made.hourOf(most, 9999, 9999, 9999, 9999, 9999, 9999, 9999, 9999, 9999, 9999);
        check.same("9999 by 1000 of 1100", most.smoke(3, 3), 9090);
    }

    private static SmokeWard withoutTrust() {
        SmokeWard ward = new SmokeWard();
        for (int i = 0; i < 5; i++) {
            ward.addSensor(3, 3);
        }
        ward.addSensor(4, 4);
        int[] readings = {150, 50, 150, 50, 150, 50, 150};
        for (int reading : readings) {
            Made.hourOf(ward, 50, 50, 50, 50, 50, reading);
        }
        return ward;
    }

    private void notByATrustOfNone() {
        SmokeWard ward = withoutTrust();
        state("it counts without trust", ward, 5, '?', 0);
        int smoke = ward.smoke(4, 4);
        long mended = ward.mended();
        Made.hourOf(ward, -1, -1, -1, -1, -1, 9999);
        check.same("the cell", ward.smoke(4, 4), smoke - smoke / 20);
        check.same("mended", ward.mended(), mended);
        SmokeWard both = withoutTrust();
        both.addSensor(4, 4);
        smoke = both.smoke(4, 4);
        smoke -= smoke / 20;
        Made.hourOf(both, -1, -1, -1, -1, -1, 9999, 600);
        check.same("with another of 50", both.smoke(4, 4), smoke + (600 - smoke) / 3);
    }

    private void addSensor() {
        sentences.in("Promise 7: addSensor");
        sentences.hold("Adds a sensor in a cell, with the trust 50.", () -> {
            SmokeWard ward = new SmokeWard();
            for (int i = 0; i < 10; i++) {
                ward.addSensor(7, 5);
                state("new", ward, i, '+', 50);
            }
        });
        arguments.cell((w, x, y) -> w.addSensor(x, y));
        sentences.hold("Returns its number.", () -> {
            SmokeWard ward = new SmokeWard();
            for (int i = 0; i < 10; i++) {
                check.same("the number", ward.addSensor(i % 8, i % 6), i);
            }
        });
        arguments.noCell((w, x, y) -> w.addSensor(x, y));
        sentences.hold("Throws `IllegalStateException` if there are 10", () -> {
            SmokeWard ward = Made.withSensors(9);
            check.thrown("the tenth", Check.NOTHING, () -> ward.addSensor(0, 0));
            check.thrown("one more", Check.STATE, () -> ward.addSensor(0, 0));
            check.thrown("and again", Check.STATE, () -> ward.addSensor(7, 5));
            ward.pass(24);
            check.thrown("a day behind", Check.STATE, () -> ward.addSensor(7, 5));
        });
    }

    private void number(Arguments.Call call) {
        sentences.hold(NUMBER, () -> {
            for (int count = 1; count <= 10; count++) {
                int sensors = count;
                arguments.range(0, count - 1, Check.INDEX, () -> reading(sensors), call);
            }
        });
    }

    private void noNumber(Arguments.Call call) {
        sentences.hold(NO_SENSOR, () -> {
            check.thrown("the first where there is none", Check.INDEX, () -> call.with(new SmokeWard(), 0));
            check.thrown("1 below the first", Check.INDEX, () -> call.with(reading(3), -1));
            check.thrown("1 behind the last", Check.INDEX, () -> call.with(reading(3), 3));
            check.thrown("one behind the most", Check.INDEX, () -> call.with(reading(10), 10));
        });
    }

    private static SmokeWard reading(int sensors) {
        SmokeWard ward = Made.withSensors(sensors);
        for (int i = 0; i < sensors; i++) {
            ward.read(i, 10 * i);
        }
        return ward;
    }

    private void read() {
        sentences.in("Promise 8: read");
        sentences.hold("Tells what a sensor reads in this hour, in place of what it read in it.", () -> {
            SmokeWard ward = Made.withSensors(1);
            ward.read(0, 9999);
            ward.read(0, 0);
            ward.read(0, 300);
            ward.pass(1);
            check.same("300 by 50 of 150", ward.smoke(3, 3), 100);
            SmokeWard told = reading(3);
            told.read(1, 100);
            check.same("as neighbours see it", told.judged(0), 60);
            told.read(1, 0);
            check.same("and see it anew", told.judged(0), 10);
        });
        number((w, sensor) -> w.read(sensor, 9999));
        sentences.hold("- `value`: what it reads, 0 to 9999",
            () -> arguments.range(0, 9999, Check.ARGUMENT, () -> Made.withSensors(1), (w, value) -> w.read(0, value)));
        sentences.hold("Returns how many sensors have read in this hour.", this::howManyHaveRead);
        noNumber((w, sensor) -> w.read(sensor, 0));
        sentences.hold("Throws `IllegalArgumentException` if it is out of range", () -> {
            check.thrown("1 too little", Check.ARGUMENT, () -> Made.withSensors(1).read(0, -1));
            check.thrown("1 too much", Check.ARGUMENT, () -> Made.withSensors(1).read(0, 10000));
        });
    }

    private void howManyHaveRead() {
        SmokeWard ward = Made.withSensors(10);
        for (int i = 0; i < 10; i++) {
            check.same("by sensor " + (9 - i), ward.read(9 - i, 0), i + 1);
            check.same("again", ward.read(9 - i, 9999), i + 1);
        }
        ward.pass(1);
        check.same("in the next hour", ward.read(4, 1), 1);
        check.same("one left out has read too", Made.withOneLeftOut().read(5, 1), 1);
    }

    private void trust() {
        sentences.in("Promise 9: trust");
        sentences.hold("Returns the trust of a sensor.", this::moreTrust);
        number((w, sensor) -> w.trust(sensor));
        sentences.hold("Returns the trust, 0 to 100.", this::lessTrust);
        noNumber((w, sensor) -> w.trust(sensor));
    }

    private void stateOf() {
        sentences.in("Promise 10: stateOf");
        sentences.hold("Returns the state of a sensor.", this::leftOut);
        number((w, sensor) -> w.stateOf(sensor));
        sentences.hold("Returns '+' it counts, '?' it was doubted in the last hour in which it was judged, "
            + "'x' it is left out.", this::takenBack);
        noNumber((w, sensor) -> w.stateOf(sensor));
    }

    private void judged() {
        sentences.in("Promise 11: judged");
        sentences.hold("Returns what the neighbours of a sensor tell in this hour.", this::neighbours);
        sentences.hold(NUMBER, () -> {
            arguments.range(0, 2, Check.INDEX, () -> reading(3), (w, sensor) -> w.judged(sensor));
            arguments.range(0, 9, Check.INDEX, () -> reading(10), (w, sensor) -> w.judged(sensor));
        });
        sentences.hold("Returns the mean that they tell.", () -> {
            SmokeWard ward = Made.withSensors(10);
            ward.read(0, 500);
            ward.read(1, 10);
            ward.read(2, 15);
            check.same("12 and a half, cut", ward.judged(0), 12);
            ward.read(3, 0);
            check.same("8 and a third, cut", ward.judged(0), 8);
            for (int i = 1; i < 10; i++) {
                ward.read(i, 9999);
            }
            check.same("the greatest", ward.judged(0), 9999);
            check.same("of another one", ward.judged(9), 8943);
            for (int i = 1; i < 10; i++) {
                ward.read(i, 0);
            }
            check.same("none", ward.judged(0), 0);
        });
        noNumber((w, sensor) -> w.judged(sensor));
        sentences.hold("Throws `UnsupportedOperationException` if fewer than 2 neighbours have read, "
            + "or this one has not", this::nothingIsTold);
    }

    private void nothingIsTold() {
        SmokeWard ward = Made.withSensors(3);
        check.thrown("nobody has read", Check.UNSUPPORTED, () -> ward.judged(0));
        ward.read(0, 10);
        check.thrown("no neighbour has", Check.UNSUPPORTED, () -> ward.judged(0));
        ward.read(1, 10);
        check.thrown("one neighbour has", Check.UNSUPPORTED, () -> ward.judged(0));
        check.thrown("two have, this one has not", Check.UNSUPPORTED, () -> ward.judged(2));
        ward.read(2, 10);
        check.thrown("two have, and this one", Check.NOTHING, () -> ward.judged(0));
        ward.pass(1);
        check.thrown("an hour later", Check.UNSUPPORTED, () -> ward.judged(0));
    }

    private void mended() {
        sentences.in("Promise 33: mended");
        sentences.hold("Returns by how much sensors have changed the smoke.", () -> {
            check.same("without sensors", new SmokeWard().mended(), 0);
            check.same("by one", Made.withSmoke(7, 5, 100).mended(), 100);
            SmokeWard forecast = Made.withSensors(1);
            forecast.read(0, 300);
            forecast.worst(3, 3, 12);
            check.same("not by a forecast", forecast.mended(), 0);
        });
        sentences.hold("Returns the sum of what was added, less what was taken.", () -> {
            SmokeWard ward = new SmokeWard();
            ward.addSensor(2, 2);
            ward.light(2, 2, 9);
            Made.hourOf(ward, 0);
            // 90 - 4 = 86; 86 / 3 = 28
            check.same("taken", ward.mended(), -28);
            ward.addSensor(7, 5);
            Made.hourOf(ward, -1, 300);
            check.same("less than added", ward.mended(), 72);
        });
    }

    private void trustShare() {
        sentences.in("Promise 34: trustShare");
        sentences.hold("Returns the share of the sensors that count.", () -> {
            check.same("five of six", Made.withOneLeftOut().trustShare(), (float) 5 / (float) 6);
            SmokeWard none = Made.withSensors(3);
            Made.hourOf(none, 30, 30, 300);
            check.same("doubted ones count", none.trustShare(), 1.0f);
            Made.hourOf(none, 30, 30, 300);
            check.same("none of three", none.trustShare(), 0.0f);
        });
        sentences.hold("Returns their number divided by that of all, both converted to float.", () -> {
            for (int count = 1; count <= 10; count++) {
                check.same("all of " + count, Made.withSensors(count).trustShare(), 1.0f);
            }
            SmokeWard ward = Made.withOneLeftOut();
            ward.addSensor(0, 0);
            check.same("six of seven", ward.trustShare(), (float) 6 / (float) 7);
        });
        sentences.hold("Throws `ArithmeticException` if there are none", () -> {
            SmokeWard ward = new SmokeWard();
            check.thrown("none", Check.ARITHMETIC, () -> ward.trustShare());
            ward.pass(24);
            check.thrown("none for a day", Check.ARITHMETIC, () -> ward.trustShare());
            ward.addSensor(0, 0);
            check.thrown("one", Check.NOTHING, () -> ward.trustShare());
        });
    }
}
