/** Promises 12 to 15 and 25 to 29: subscribers, schools, and what they are told. */
final class WarningsTest {
    private static final Check CHECK = new Check();

    public static void main(String[] args) {
        subscribersAreAdded();
        schoolsAreAdded();
        numbersThatAreNot();
        warnedAtTheBound();
        toldThatItIsOver();
        hoursOfTheDay();
        overMidnight();
        overInAnyHour();
        warningsAreSentOnce();
        warningsInTheirOrder();
        manyWarnings();
        schoolsClose();
        schoolsOpenAgain();
        schoolsGoByForecasts();
        CHECK.end();
    }

    /** Brings the smoke of a cell with a sensor of the trust 50 from what it is to another, within the hour. */
    private static void bringSmoke(SmokeWard ward, int sensor, int value) {
        ward.read(sensor, value);
        ward.pass(1);
    }

    private static void subscribersAreAdded() {
        SmokeWard ward = new SmokeWard();
        CHECK.thrown("bound 19", Check.ARGUMENT, () -> ward.subscribe(0, 0, 19, 0, 0));
        CHECK.thrown("bound 10000", Check.ARGUMENT, () -> ward.subscribe(0, 0, 10000, 0, 0));
        CHECK.thrown("from -1", Check.ARGUMENT, () -> ward.subscribe(0, 0, 20, -1, 0));
        CHECK.thrown("from 24", Check.ARGUMENT, () -> ward.subscribe(0, 0, 20, 24, 0));
        CHECK.thrown("till -1", Check.ARGUMENT, () -> ward.subscribe(0, 0, 20, 0, -1));
        CHECK.thrown("till 24", Check.ARGUMENT, () -> ward.subscribe(0, 0, 20, 0, 24));
        CHECK.thrown("no cell", Check.INDEX, () -> ward.subscribe(0, 6, 19, 24, 24));
        CHECK.thrown("no cell", Check.INDEX, () -> ward.subscribe(-1, 0, 20, 0, 0));
        for (int i = 0; i < 12; i++) {
            CHECK.same("subscribe", ward.subscribe(7, 5, i % 2 == 0 ? 20 : 9999, 23 * (i % 3 / 2), 23 - i), i);
            CHECK.no("warned at first", ward.isWarned(i));
        }
        CHECK.thrown("the 13th", Check.STATE, () -> ward.subscribe(0, 0, 20, 0, 0));
        CHECK.thrown("the 13th, wrong", Check.ARGUMENT, () -> ward.subscribe(0, 0, 20, 0, 24));
        CHECK.thrown("the 13th nowhere", Check.INDEX, () -> ward.subscribe(8, 0, 20, 0, 24));
    }

    private static void schoolsAreAdded() {
        SmokeWard ward = new SmokeWard();
        CHECK.thrown("bound 19", Check.ARGUMENT, () -> ward.addSchool(0, 0, 19));
        CHECK.thrown("bound 10000", Check.ARGUMENT, () -> ward.addSchool(0, 0, 10000));
        CHECK.thrown("no cell", Check.INDEX, () -> ward.addSchool(0, -1, 19));
        for (int i = 0; i < 6; i++) {
            CHECK.same("addSchool", ward.addSchool(7, 5, i % 2 == 0 ? 20 : 9999), i);
            CHECK.yes("open at first", ward.isOpen(i));
        }
        CHECK.thrown("the 7th", Check.STATE, () -> ward.addSchool(0, 0, 20));
        CHECK.thrown("the 7th, wrong", Check.ARGUMENT, () -> ward.addSchool(0, 0, 19));
        CHECK.thrown("the 7th nowhere", Check.INDEX, () -> ward.addSchool(0, 6, 19));
    }

    private static void numbersThatAreNot() {
        SmokeWard ward = new SmokeWard();
        ward.subscribe(0, 0, 20, 0, 23);
        ward.addSchool(0, 0, 20);
        ward.light(0, 0, 9);
        ward.pass(1);
        CHECK.same("warnings", ward.warnings(), 1);
        int[] numbers = {-1, 1, 12, Integer.MAX_VALUE, Integer.MIN_VALUE};
        for (int number : numbers) {
            CHECK.thrown("isWarned " + number, Check.INDEX, () -> ward.isWarned(number));
            CHECK.thrown("isOpen " + number, Check.INDEX, () -> ward.isOpen(number));
            CHECK.thrown("warnedAt " + number, Check.INDEX, () -> ward.warnedAt(number));
            CHECK.thrown("warnedWhom " + number, Check.INDEX, () -> ward.warnedWhom(number));
            CHECK.thrown("warnedBy " + number, Check.INDEX, () -> ward.warnedBy(number));
        }
    }

    private static void warnedAtTheBound() {
        SmokeWard ward = new SmokeWard();
        ward.subscribe(2, 2, 87, 0, 23);
        ward.subscribe(2, 2, 86, 0, 23);
        ward.subscribe(2, 2, 85, 0, 23);
        ward.subscribe(2, 3, 20, 0, 23);
        ward.light(2, 2, 9);
        ward.pass(1);
        CHECK.same("smoke", ward.smoke(2, 2), 86);
        CHECK.no("less than the bound", ward.isWarned(0));
        CHECK.yes("the bound", ward.isWarned(1));
        CHECK.yes("more than the bound", ward.isWarned(2));
        CHECK.no("another cell", ward.isWarned(3));
        CHECK.same("warnings", ward.warnings(), 2);
    }

    private static void toldThatItIsOver() {
        SmokeWard ward = new SmokeWard();
        ward.subscribe(2, 2, 88, 0, 23);
        ward.light(2, 2, 9);
        ward.pass(2);
        CHECK.same("smoke", ward.smoke(2, 2), 92);
        CHECK.yes("warned", ward.isWarned(0));
        ward.pass(3);
        CHECK.same("smoke less by 8", ward.smoke(2, 2), 80);
        CHECK.yes("not over by 8", ward.isWarned(0));
        ward.pass(1);
        CHECK.same("smoke less by 12", ward.smoke(2, 2), 76);
        CHECK.no("over by 12", ward.isWarned(0));
        CHECK.same("that it is over does not count", ward.warnings(), 1);
        SmokeWard exact = new SmokeWard();
        exact.subscribe(2, 2, 90, 0, 23);
        exact.subscribe(2, 2, 91, 0, 23);
        exact.light(2, 2, 9);
        exact.pass(5);
        CHECK.same("smoke less by 10 and by 11", exact.smoke(2, 2), 80);
        CHECK.yes("not over by 10", exact.isWarned(0));
        CHECK.no("over by 11", exact.isWarned(1));
    }

    private static void hoursOfTheDay() {
        SmokeWard ward = new SmokeWard();
        ward.subscribe(2, 2, 20, 0, 0);
        ward.subscribe(2, 2, 20, 1, 2);
        ward.subscribe(2, 2, 20, 3, 3);
        ward.subscribe(2, 2, 20, 5, 23);
        ward.setFuel(2, 2, 99);
        ward.light(2, 2, 4);
        for (int hour = 0; hour < 7; hour++) {
            ward.pass(1);
            CHECK.yes("0 to 0", ward.isWarned(0));
            CHECK.same("1 to 2", ward.isWarned(1) ? 1 : 0, hour >= 1 ? 1 : 0);
            CHECK.same("3 to 3", ward.isWarned(2) ? 1 : 0, hour >= 3 ? 1 : 0);
            CHECK.same("5 to 23", ward.isWarned(3) ? 1 : 0, hour >= 5 ? 1 : 0);
        }
        int[] hours = {0, 1, 3, 5};
        for (int i = 0; i < 4; i++) {
            CHECK.same("warnedAt", ward.warnedAt(i), hours[i]);
            CHECK.same("warnedWhom", ward.warnedWhom(i), i);
        }
        SmokeWard late = new SmokeWard();
        late.subscribe(2, 2, 20, 1, 3);
        late.pass(4);
        late.setFuel(2, 2, 99);
        late.light(2, 2, 5);
        late.pass(20);
        CHECK.no("behind the last hour", late.isWarned(0));
        late.pass(1);
        CHECK.no("not in the hour 0 of the next day", late.isWarned(0));
        late.pass(1);
        CHECK.yes("in the hour 1 of the next day", late.isWarned(0));
        CHECK.same("hours go on by days", late.warnedAt(0), 25);
    }

    private static void overMidnight() {
        int[][] rows = {{0, 1}, {1, 1}, {2, 0}, {12, 0}, {21, 0}, {22, 1}, {23, 1}, {24, 1}, {25, 1}, {26, 0}};
        for (int[] row : rows) {
            SmokeWard ward = new SmokeWard();
            ward.subscribe(2, 2, 40, 22, 1);
            if (row[0] > 0) {
                passUpTo(ward, row[0]);
            }
            ward.light(2, 2, 9);
            ward.pass(1);
            CHECK.same("22 to 1 at " + row[0], ward.isWarned(0) ? 1 : 0, row[1]);
        }
    }

    private static void passUpTo(SmokeWard ward, int hour) {
        if (hour > 24) {
            ward.pass(24);
            hour -= 24;
        }
        ward.pass(hour);
    }

    private static void overInAnyHour() {
        SmokeWard ward = new SmokeWard();
        ward.subscribe(2, 2, 80, 0, 0);
        ward.light(2, 2, 9);
        ward.setRain(9);
        ward.pass(1);
        CHECK.same("45", ward.smoke(2, 2), 45);
        CHECK.no("too little", ward.isWarned(0));
        SmokeWard other = new SmokeWard();
        other.subscribe(2, 2, 80, 0, 0);
        other.light(2, 2, 9);
        other.pass(1);
        CHECK.yes("warned", other.isWarned(0));
        other.setRain(9);
        other.pass(1);
        CHECK.no("over out of the hours", other.isWarned(0));
        CHECK.same("smoke", other.smoke(2, 2), 48);
    }

    private static void warningsAreSentOnce() {
        SmokeWard ward = new SmokeWard();
        ward.addSensor(1, 1);
        ward.subscribe(1, 1, 100, 0, 23);
        bringSmoke(ward, 0, 300);
        CHECK.same("100 by the sensor", ward.smoke(1, 1), 100);
        CHECK.yes("warned", ward.isWarned(0));
        bringSmoke(ward, 0, 600);
        CHECK.same("not again", ward.warnings(), 1);
        CHECK.same("by the smoke of then", ward.warnedBy(0), 100);
        bringSmoke(ward, 0, 0);
        bringSmoke(ward, 0, 0);
        bringSmoke(ward, 0, 0);
        CHECK.no("over", ward.isWarned(0));
        bringSmoke(ward, 0, 900);
        CHECK.yes("warned again", ward.isWarned(0));
        CHECK.same("two by now", ward.warnings(), 2);
        CHECK.same("the hour of the second", ward.warnedAt(1), 5);
        CHECK.same("the smoke of the second", ward.warnedBy(1), ward.smoke(1, 1));
    }

    private static void warningsInTheirOrder() {
        SmokeWard ward = new SmokeWard();
        ward.subscribe(5, 5, 30, 0, 23);
        ward.subscribe(2, 2, 30, 1, 23);
        ward.subscribe(2, 2, 30, 0, 23);
        ward.light(2, 2, 9);
        ward.light(5, 5, 4);
        ward.pass(2);
        int[][] due = {{0, 0, 38}, {0, 2, 86}, {1, 1, 92}};
        CHECK.same("warnings", ward.warnings(), due.length);
        for (int i = 0; i < due.length; i++) {
            CHECK.same("warnedAt", ward.warnedAt(i), due[i][0]);
            CHECK.same("warnedWhom", ward.warnedWhom(i), due[i][1]);
            CHECK.same("warnedBy", ward.warnedBy(i), due[i][2]);
        }
    }

    private static void manyWarnings() {
        SmokeWard ward = new SmokeWard();
        ward.addSensor(1, 1);
        for (int i = 0; i < 12; i++) {
            ward.subscribe(1, 1, 200, 0, 23);
        }
        ward.setRain(9);
        for (int i = 0; i < 60; i++) {
            bringSmoke(ward, 0, 9999);
            ward.pass(6);
        }
        CHECK.same("warnings", ward.warnings(), 720);
        CHECK.same("last whom", ward.warnedWhom(719), 11);
        CHECK.same("first whom of the last hour", ward.warnedWhom(708), 0);
        CHECK.same("last hour", ward.warnedAt(719), 59 * 7);
        CHECK.same("first hour", ward.warnedAt(0), 0);
        CHECK.same("first smoke", ward.warnedBy(0), 3333);
        CHECK.same("last smoke", ward.warnedBy(719), ward.warnedBy(708));
        CHECK.yes("the same again", ward.isSame());
    }

    private static void schoolsClose() {
        SmokeWard ward = new SmokeWard();
        ward.addSchool(2, 2, 84);
        ward.addSchool(2, 2, 85);
        ward.addSchool(2, 3, 20);
        ward.pass(22);
        ward.light(2, 2, 9);
        ward.setFuel(2, 2, 9);
        ward.pass(1);
        CHECK.same("smoke at 23", ward.smoke(2, 2), 86);
        CHECK.yes("not ahead of the last hour", ward.isOpen(0));
        CHECK.same("no closings yet", ward.closings(), 0);
        ward.pass(1);
        CHECK.same("smoke at 24", ward.smoke(2, 2), 82);
        CHECK.yes("the worst to come is 78", ward.isOpen(0));
        SmokeWard close = new SmokeWard();
        close.addSchool(2, 2, 78);
        close.addSchool(2, 2, 79);
        close.addSchool(2, 3, 20);
        close.pass(22);
        close.light(2, 2, 9);
        close.setFuel(2, 2, 9);
        close.pass(2);
        CHECK.no("its bound", close.isOpen(0));
        CHECK.yes("less than its bound", close.isOpen(1));
        CHECK.yes("another cell", close.isOpen(2));
        CHECK.same("closings", close.closings(), 1);
    }

    private static void schoolsOpenAgain() {
        SmokeWard ward = new SmokeWard();
        ward.addSchool(2, 2, 20);
        ward.pass(23);
        ward.light(2, 2, 9);
        ward.pass(1);
        CHECK.no("closed", ward.isOpen(0));
        ward.light(2, 2, 9);
        ward.pass(24);
        CHECK.no("still closed", ward.isOpen(0));
        CHECK.same("closed once", ward.closings(), 1);
        ward.pass(23);
        CHECK.no("closed up to the last hour", ward.isOpen(0));
        ward.pass(1);
        CHECK.yes("open again", ward.isOpen(0));
        ward.setFuel(2, 2, 99);
        ward.light(2, 2, 3);
        ward.pass(24);
        CHECK.no("closed again", ward.isOpen(0));
        CHECK.same("closed twice", ward.closings(), 2);
    }

    private static void schoolsGoByForecasts() {
        SmokeWard ward = new SmokeWard();
        ward.addSchool(5, 2, 20);
        ward.pass(23);
        ward.light(2, 2, 9);
        ward.setFuel(2, 2, 99);
        ward.setWind(1, 0, 1);
        ward.pass(1);
        CHECK.same("no smoke yet", ward.smoke(5, 2), 0);
        CHECK.yes("but to come", ward.worst(5, 2, 12) >= 20);
        CHECK.no("closed", ward.isOpen(0));
        SmokeWard far = new SmokeWard();
        far.addSchool(2, 2, 375);
        far.addSchool(2, 2, 376);
        far.pass(23);
        far.setFuel(2, 2, 99);
        far.light(2, 2, 4);
        far.pass(1);
        CHECK.same("worst of 12 hours", far.worst(2, 2, 12), 375);
        CHECK.same("worst of 11 hours", far.worst(2, 2, 11), 354);
        CHECK.no("closed by the 12th hour", far.isOpen(0));
        CHECK.yes("open by a greater bound", far.isOpen(1));
        SmokeWard sensor = new SmokeWard();
        sensor.addSchool(2, 2, 50);
        sensor.addSensor(2, 2);
        sensor.pass(23);
        sensor.read(0, 300);
        sensor.pass(1);
        CHECK.same("mended", sensor.smoke(2, 2), 100);
        CHECK.no("from how things are behind the mending", sensor.isOpen(0));
    }
}
