/** Promises 30 to 32 and 35 to 37: the sums, isKept and isSame. */
final class RecordsTest {
    private static final Check CHECK = new Check();

    public static void main(String[] args) {
        sumsOfSmoke();
        meanOfSmoke();
        keptAndSame();
        sameIsAskedOften();
        sameAfterAllCalls();
        CHECK.end();
    }

    private static void sumsOfSmoke() {
        SmokeWard ward = new SmokeWard();
        ward.setFuel(7, 0, 50);
        ward.light(7, 0, 9);
        ward.setWind(1, -1, 4);
        ward.pass(1);
        // 90: 22, 17, 12 and 9 are blown out, 1 of 30 settles.
        CHECK.same("made", ward.made(), 90);
        CHECK.same("blown", ward.blown(), 60);
        CHECK.same("settled", ward.settled(), 1);
        CHECK.same("mended", ward.mended(), 0);
        CHECK.same("smoke", ward.smoke(7, 0), 29);
        ward.worst(7, 0, 12);
        CHECK.same("a forecast makes none", ward.made(), 90);
        CHECK.same("a forecast blows none", ward.blown(), 60);
        CHECK.same("a forecast settles none", ward.settled(), 1);
        SmokeWard two = new SmokeWard();
        two.light(0, 0, 2);
        two.light(5, 5, 3);
        two.pass(3);
        CHECK.same("of all cells and hours", two.made(), 150);
    }

    private static void meanOfSmoke() {
        SmokeWard ward = new SmokeWard();
        ward.light(2, 2, 9);
        ward.light(6, 0, 4);
        ward.pass(1);
        CHECK.same("86 and 38, of 48", ward.meanSmoke(), 124.0 / 48.0);
    }

    private static void keptAndSame() {
        SmokeWard ward = new SmokeWard();
        CHECK.yes("kept at first", ward.isKept());
        CHECK.yes("same at first", ward.isSame());
        ward.addSensor(1, 1);
        ward.addSensor(2, 1);
        ward.addSensor(1, 2);
        ward.subscribe(1, 1, 20, 0, 23);
        ward.addSchool(1, 1, 20);
        ward.setWind(1, 0, 3);
        ward.setRain(2);
        ward.setFuel(0, 1, 99);
        ward.light(0, 1, 9);
        ward.digLine(2, 2, 0);
        for (int i = 0; i < 9; i++) {
            ward.read(0, 200);
            ward.read(1, 210 + 50 * i);
            ward.read(2, 40 * i);
            ward.pass(1 + i);
            CHECK.yes("kept", ward.isKept());
            CHECK.yes("same", ward.isSame());
        }
        CHECK.yes("something was mended", ward.mended() != 0);
        CHECK.yes("something was blown", ward.blown() > 0);
        CHECK.yes("somebody was warned", ward.warnings() > 0);
        CHECK.same("the readings are not lost", readAndAsk(), 15);
    }

    private static int readAndAsk() {
        SmokeWard ward = new SmokeWard();
        for (int i = 0; i < 3; i++) {
            ward.addSensor(1, 1);
        }
        ward.read(0, 10);
        ward.read(1, 20);
        CHECK.yes("same within an hour", ward.isSame());
        ward.read(2, 9);
        CHECK.yes("same again", ward.isSame());
        return ward.judged(2);
    }

    private static void sameIsAskedOften() {
        SmokeWard ward = new SmokeWard();
        for (int i = 0; i < 41; i++) {
            ward.setFuel(i % 8, i % 6, 99);
            ward.light(i % 8, i % 6, 9);
            ward.pass(24);
        }
        for (int i = 0; i < 300; i++) {
            CHECK.yes("same", ward.isSame());
        }
        CHECK.yes("kept", ward.isKept());
    }

    private static void sameAfterAllCalls() {
        SmokeWard ward = new SmokeWard();
        ward.addSensor(1, 1);
        for (int i = 0; i < 255; i++) {
            ward.read(0, 39 * i);
            ward.pass(1 + i % 3);
        }
        CHECK.yes("same as the 512th call", ward.isSame());
    }
}
