/** Long runs of calls, right and wrong ones, on the program and on a plain second reading of the document. */
final class RunsTest {
    private static final Check CHECK = new Check();
    private static final int RUNS = 400;
    // Of the 512 calls that an object serves, what a last step (12) and the look at the end (50) leave.
    private static final int CALLS = 450;

    private interface Answer {
        String get();
    }

    private long seed;
    private int calls = 0;

    private RunsTest(long seed) {
        this.seed = seed * 7919 + 17;
    }

    public static void main(String[] args) {
        for (int run = 0; run < RUNS; run++) {
            new RunsTest(run).run(run);
        }
        CHECK.end();
    }

    private int pick(int bound) {
        seed = seed * 6364136223846793005L + 1442695040888963407L;
        return (int) ((seed >>> 33) % bound);
    }

    /** A number of the range, now and then one just out of it. */
    private int pick(int least, int most) {
        if (pick(40) == 0) {
            return pick(2) == 0 ? least - 1 : most + 1;
        }
        return least + pick(most - least + 1);
    }

    private void run(int run) {
        SmokeWard ward = new SmokeWard();
        PlainWard plain = new PlainWard();
        int small = 1 + pick(8);
        while (calls < CALLS) {
            // Few cells, so that what is done meets what was done.
            int x = pick(10) == 0 ? pick(0, 7) : pick(small);
            int y = pick(10) == 0 ? pick(0, 5) : pick(small < 6 ? small : 6);
            one(run + ", " + calls + ": ", ward, plain, x, y);
        }
        for (int y = 0; y < 6; y++) {
            for (int x = 0; x < 8; x++) {
                CHECK.same(run + ": smoke at the end", ward.smoke(x, y), plain.smoke(x, y));
            }
        }
        CHECK.yes(run + ": kept", ward.isKept());
        CHECK.yes(run + ": same", ward.isSame());
    }

    private void both(String what, Answer got, Answer due) {
        calls++;
        CHECK.same(what, told(got), told(due));
    }

    private static String told(Answer answer) {
        try {
            return answer.get();
        } catch (RuntimeException e) {
            return "throws " + e.getClass().getSimpleName();
        }
    }

    private void one(String at, SmokeWard w, PlainWard p, int x, int y) {
        int kind = pick(26);
        if (kind < 12) {
            acts(at, w, p, x, y, kind);
        } else {
            asks(at, w, p, x, y, kind);
        }
    }

    private void acts(String at, SmokeWard w, PlainWard p, int x, int y, int kind) {
        switch (kind) {
            case 0: {
                int fuel = pick(0, 99);
                both(at + "setFuel", () -> "" + w.setFuel(x, y, fuel), () -> "" + p.setFuel(x, y, fuel));
                break;
            }
            case 1: {
                int fire = pick(1, 9);
                both(at + "light", () -> "" + w.light(x, y, fire), () -> "" + p.light(x, y, fire));
                break;
            }
            case 2: {
                int dx = pick(-1, 1);
                int dy = pick(-1, 1);
                int strength = pick(0, 4);
                both(at + "setWind", () -> "" + w.setWind(dx, dy, strength), () -> "" + p.setWind(dx, dy, strength));
                break;
            }
            case 3: {
                int rain = pick(3) > 0 ? pick(0, 2) : pick(0, 9);
                both(at + "setRain", () -> "" + w.setRain(rain), () -> "" + p.setRain(rain));
                break;
            }
            case 4: {
                int crew = pick(0, 2);
                both(at + "digLine", () -> "" + w.digLine(x, y, crew), () -> "" + p.digLine(x, y, crew));
                break;
            }
            case 5:
                both(at + "addSensor", () -> "" + w.addSensor(x, y), () -> "" + p.addSensor(x, y));
                break;
            case 6: {
                int bound = pick(3) > 0 ? pick(20, 300) : pick(20, 9999);
                int from = pick(0, 23);
                int till = pick(0, 23);
                both(at + "subscribe", () -> "" + w.subscribe(x, y, bound, from, till),
                    () -> "" + p.subscribe(x, y, bound, from, till));
                break;
            }
            case 7: {
                int bound = pick(3) > 0 ? pick(20, 300) : pick(20, 9999);
                both(at + "addSchool", () -> "" + w.addSchool(x, y, bound), () -> "" + p.addSchool(x, y, bound));
                break;
            }
            case 8: {
                int hours = pick(3) == 0 ? pick(1, 24) : pick(1, 3);
                both(at + "pass", () -> "" + w.pass(hours), () -> "" + p.pass(hours));
                break;
            }
            default:
                readings(at, w, p);
        }
    }

    /** Reads by all sensors, mostly much alike, so that some hours judge them. */
    private void readings(String at, SmokeWard w, PlainWard p) {
        int about = pick(300);
        int strange = pick(6);
        for (int i = 0; i < 10; i++) {
            int sensor = pick(30) == 0 ? pick(-1, 10) : i;
            int value = i == strange ? pick(0, 9999) : about + pick(25);
            if (pick(5) > 0) {
                both(at + "read", () -> "" + w.read(sensor, value), () -> "" + p.read(sensor, value));
            }
        }
        int sensor = pick(0, 9);
        both(at + "judged", () -> "" + w.judged(sensor), () -> "" + p.judged(sensor));
        both(at + "pass", () -> "" + w.pass(1), () -> "" + p.pass(1));
    }

    private void asks(String at, SmokeWard w, PlainWard p, int x, int y, int kind) {
        int sensor = pick(0, 9);
        int school = pick(0, 5);
        int subscriber = pick(0, 11);
        int warning = pick(0, 30);
        int crew = pick(0, 2);
        int hours = pick(1, 12);
        // These answers take two calls, the two long ones four.
        calls += kind == 21 || kind == 22 ? 3 : 1;
        switch (kind) {
            case 12:
                both(at + "trust", () -> "" + w.trust(sensor), () -> "" + p.trust(sensor));
                break;
            case 13:
                both(at + "stateOf", () -> "" + w.stateOf(sensor), () -> "" + p.stateOf(sensor));
                break;
            case 14:
                both(at + "isOpen", () -> "" + w.isOpen(school), () -> "" + p.isOpen(school));
                break;
            case 15:
                both(at + "isWarned", () -> "" + w.isWarned(subscriber), () -> "" + p.isWarned(subscriber));
                break;
            case 16:
                both(at + "fuel", () -> "" + w.fuel(x, y), () -> "" + p.fuel(x, y));
                both(at + "fire", () -> "" + w.fire(x, y), () -> "" + p.fire(x, y));
                break;
            case 17:
                both(at + "smoke", () -> "" + w.smoke(x, y), () -> "" + p.smoke(x, y));
                break;
            case 18:
                both(at + "hasLine", () -> "" + w.hasLine(x, y), () -> "" + p.hasLine(x, y));
                both(at + "left", () -> "" + w.left(crew), () -> "" + p.left(crew));
                break;
            case 19:
                both(at + "forecast", () -> "" + w.forecast(x, y, hours), () -> "" + p.forecast(x, y, hours));
                break;
            case 20:
                both(at + "worst", () -> "" + w.worst(x, y, hours), () -> "" + p.worst(x, y, hours));
                break;
            case 21:
                both(at + "warning", () -> w.warnedAt(warning) + " " + w.warnedWhom(warning) + " " + w.warnedBy(warning),
                    () -> p.warning(warning));
                both(at + "warnings", () -> "" + w.warnings(), () -> "" + p.warnings());
                break;
            case 22:
                both(at + "sums", () -> w.made() + " " + w.blown() + " " + w.settled() + " " + w.mended(),
                    () -> p.sums());
                break;
            case 23:
                both(at + "trustShare", () -> "" + w.trustShare(), () -> "" + p.trustShare());
                both(at + "closings", () -> "" + w.closings(), () -> "" + p.closings());
                break;
            case 24:
                both(at + "meanSmoke", () -> "" + w.meanSmoke(), () -> "" + p.meanSmoke());
                both(at + "hour", () -> "" + w.hour(), () -> "" + p.hour());
                break;
            default:
                both(at + "isKept, isSame", () -> w.isKept() + " " + w.isSame(), () -> "true true");
        }
    }
}
