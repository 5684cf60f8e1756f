/** Objects that tests begin with, and short ways to bring them on. */
final class Made {
    interface Maker {
        SmokeWard make();
    }

    interface Use {
        void of(SmokeWard ward);
    }

    private Made() {
    }

    static SmokeWard with(Use use) {
        SmokeWard ward = new SmokeWard();
        use.of(ward);
        return ward;
    }

    static SmokeWard atHour(int hour) {
        SmokeWard ward = new SmokeWard();
        passUpTo(ward, hour);
        return ward;
    }

    static void passUpTo(SmokeWard ward, int hour) {
        int now = ward.hour();
        while (now < hour) {
            now = ward.pass(Math.min(24, hour - now));
        }
    }

    static SmokeWard withSensors(int count) {
        SmokeWard ward = new SmokeWard();
        for (int i = 0; i < count; i++) {
            ward.addSensor(3, 3);
        }
        return ward;
    }

    /** Lets the sensors from 0 on read, those of -1 not, and an hour pass. */
    static void hourOf(SmokeWard ward, int... values) {
        for (int i = 0; i < values.length; i++) {
            if (values[i] >= 0) {
                ward.read(i, values[i]);
            }
        }
        ward.pass(1);
    }

    /**
     * Brings the smoke of a cell without fire, rain and wind to a number, by an hour in which its one sensor reads,
     * which nobody judges: by its trust of 50 a third of what it reads too much or too little is mended.
     */
    static void bringSmoke(SmokeWard ward, int sensor, int x, int y, int smoke) {
        int now = ward.smoke(x, y);
        int settled = now - now / 20;
        ward.read(sensor, settled + 3 * (smoke - settled));
        ward.pass(1);
    }

    /** A land with this smoke in this cell, of which a sensor, the 0, has told. */
    static SmokeWard withSmoke(int x, int y, int smoke) {
        SmokeWard ward = new SmokeWard();
        ward.addSensor(x, y);
        bringSmoke(ward, 0, x, y, smoke);
        return ward;
    }

    /** A sixth of six sensors in (3, 3) that is left out, with the trust 10; the others have 70. */
    static SmokeWard withOneLeftOut() {
        SmokeWard ward = withSensors(6);
        hourOf(ward, 50, 50, 50, 50, 50, 150);
        hourOf(ward, 50, 50, 50, 50, 50, 150);
        return ward;
    }

    /** Within the hour 25: everything there is, some of it, with a line in (5, 2) and no fuel in (0, 5). */
    static SmokeWard busy() {
        SmokeWard ward = new SmokeWard();
        ward.setFuel(2, 2, 50);
        ward.light(2, 2, 6);
        ward.setWind(1, 0, 2);
        ward.setRain(2);
        ward.digLine(5, 2, 0);
        ward.addSensor(2, 2);
        ward.addSensor(3, 2);
        ward.addSensor(3, 3);
        ward.subscribe(2, 2, 30, 0, 23);
        ward.subscribe(4, 4, 20, 22, 3);
        ward.addSchool(2, 2, 20);
        ward.addSchool(7, 0, 9999);
        ward.pass(24);
        ward.read(0, 90);
        ward.read(1, 100);
        ward.read(2, 400);
        ward.pass(1);
        ward.setFuel(0, 5, 0);
        ward.setFuel(6, 4, 99);
        ward.light(6, 4, 5);
        ward.digLine(4, 4, 1);
        ward.digLine(4, 5, 2);
        ward.read(0, 90);
        ward.read(1, 95);
        ward.read(2, 100);
        return ward;
    }

    /** As many sensors, subscribers and schools as there may be, all of them at work. */
    static SmokeWard full() {
        SmokeWard ward = new SmokeWard();
        for (int i = 0; i < 10; i++) {
            ward.addSensor(i % 4, i % 3);
        }
        for (int i = 0; i < 12; i++) {
            ward.subscribe(i % 4, i % 3, 20 + i, 0, 23);
        }
        for (int i = 0; i < 6; i++) {
            ward.addSchool(i % 4, i % 3, 20 + i);
        }
        ward.light(1, 1, 9);
        ward.setWind(0, 1, 1);
        for (int i = 0; i < 10; i++) {
            ward.read(i, 100 + 9 * i);
        }
        ward.pass(24);
        return ward;
    }

    /** At the hour 999, with a fire that still burns. */
    static SmokeWard late() {
        SmokeWard ward = atHour(989);
        ward.setFuel(2, 2, 99);
        ward.light(2, 2, 5);
        ward.pass(10);
        return ward;
    }
}
