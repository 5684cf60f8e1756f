/** Promises 1, 16 and 17: a new object, pass and hour. */
final class HoursTest {
    private static final Check CHECK = new Check();

    public static void main(String[] args) {
        aNewObject();
        hoursPass();
        hoursEnd();
        CHECK.end();
    }

    private static void aNewObject() {
        SmokeWard ward = new SmokeWard();
        CHECK.same("hour", ward.hour(), 0);
        for (int y = 0; y < 6; y++) {
            for (int x = 0; x < 8; x++) {
                CHECK.same("fuel", ward.fuel(x, y), 10);
                CHECK.same("fire", ward.fire(x, y), 0);
                CHECK.same("smoke", ward.smoke(x, y), 0);
                CHECK.no("line", ward.hasLine(x, y));
            }
        }
        CHECK.same("wind", ward.setWind(0, 0, 0), 0);
        CHECK.same("rain", ward.setRain(0), 0);
        CHECK.same("warnings", ward.warnings(), 0);
        CHECK.same("closings", ward.closings(), 0);
        CHECK.same("made", ward.made(), 0);
        CHECK.same("blown", ward.blown(), 0);
        CHECK.same("settled", ward.settled(), 0);
        CHECK.same("mended", ward.mended(), 0);
        CHECK.same("meanSmoke", ward.meanSmoke(), 0.0);
        for (int crew = 0; crew < 3; crew++) {
            CHECK.same("left", ward.left(crew), 0);
        }
    }

    private static void hoursPass() {
        SmokeWard ward = new SmokeWard();
        CHECK.same("pass(1)", ward.pass(1), 1);
        CHECK.same("pass(24)", ward.pass(24), 25);
        CHECK.same("hour", ward.hour(), 25);
        CHECK.thrown("pass(0)", Check.ARGUMENT, () -> ward.pass(0));
        CHECK.thrown("pass(25)", Check.ARGUMENT, () -> ward.pass(25));
        CHECK.thrown("pass(-1)", Check.ARGUMENT, () -> ward.pass(-1));
        CHECK.thrown("pass(greatest)", Check.ARGUMENT, () -> ward.pass(Integer.MAX_VALUE));
        CHECK.thrown("pass(least)", Check.ARGUMENT, () -> ward.pass(Integer.MIN_VALUE));
    }

    private static void hoursEnd() {
        SmokeWard ward = new SmokeWard();
        for (int i = 0; i < 41; i++) {
            ward.pass(24);
        }
        CHECK.same("hour after 41 days", ward.hour(), 984);
        CHECK.thrown("pass(16) at 984", Check.STATE, () -> ward.pass(16));
        CHECK.thrown("pass(25) at 984", Check.ARGUMENT, () -> ward.pass(25));
        CHECK.same("pass(15) at 984", ward.pass(15), 999);
        CHECK.thrown("pass(1) at 999", Check.STATE, () -> ward.pass(1));
        CHECK.thrown("pass(0) at 999", Check.ARGUMENT, () -> ward.pass(0));
        CHECK.same("hour", ward.hour(), 999);
    }
}
