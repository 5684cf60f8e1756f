/** The document's words on exceptions, for each call that throws and each cause. */
final class RefusalEdges {
    private final Sentences sentences;
    private final Check check;

    RefusalEdges(Sentences sentences) {
        this.sentences = sentences;
        check = sentences.check;
    }

    void all() {
        sentences.in("Terms");
        sentences.hold("Exceptions. A method that throws an exception changes nothing.", () -> {
            landIsUnchanged();
            sensorsAreUnchanged();
            warningsAreUnchanged();
            looksAreRefused();
            fullOnesAreUnchanged();
            lateOnesAreUnchanged();
        });
        sentences.hold("If several exceptions apply, the one that is documented first is thrown.", () -> {
            firstOfTheLand();
            firstOfSensors();
            firstOfWarnings();
            firstOfHours();
        });
    }

    private void refused(String what, String due, Made.Maker maker, Made.Use use) {
        check.thrown(what, due, () -> use.of(maker.make()));
        check.unchanged(what, maker, use);
    }

    private void busy(String what, String due, Made.Use use) {
        refused(what, due, Made::busy, use);
    }

    private void landIsUnchanged() {
        busy("setFuel at no cell", Check.INDEX, w -> w.setFuel(-1, 2, 5));
        busy("setFuel at no cell", Check.INDEX, w -> w.setFuel(2, 6, 5));
        busy("setFuel too little", Check.ARGUMENT, w -> w.setFuel(2, 2, -1));
        busy("setFuel too much", Check.ARGUMENT, w -> w.setFuel(2, 2, 100));
        busy("light at no cell", Check.INDEX, w -> w.light(8, 2, 9));
        busy("light too little", Check.ARGUMENT, w -> w.light(3, 3, 0));
        busy("light too much", Check.ARGUMENT, w -> w.light(3, 3, 10));
        busy("light without fuel", Check.UNSUPPORTED, w -> w.light(0, 5, 9));
        busy("light on a line", Check.UNSUPPORTED, w -> w.light(5, 2, 9));
        int[][] winds = {{-2, 0, 1}, {2, 1, 3}, {0, -2, 3}, {0, 2, 3}, {0, 1, 5}, {-1, 1, -1}, {0, 0, 1}};
        for (int[] wind : winds) {
            busy("setWind", Check.ARGUMENT, w -> w.setWind(wind[0], wind[1], wind[2]));
        }
        busy("setRain too little", Check.ARGUMENT, w -> w.setRain(-1));
        busy("setRain too much", Check.ARGUMENT, w -> w.setRain(10));
        busy("digLine at no cell", Check.INDEX, w -> w.digLine(0, -1, 1));
        busy("digLine by crew -1", Check.ARGUMENT, w -> w.digLine(3, 3, -1));
        busy("digLine by crew 3", Check.ARGUMENT, w -> w.digLine(3, 3, 3));
        busy("digLine on a line, by an idle crew", Check.UNSUPPORTED, w -> w.digLine(5, 2, 0));
        busy("digLine on a line, by one that digs", Check.UNSUPPORTED, w -> w.digLine(5, 2, 1));
        busy("digLine in a fire, by an idle crew", Check.UNSUPPORTED, w -> w.digLine(6, 4, 0));
        busy("digLine in a fire, by one that digs", Check.UNSUPPORTED, w -> w.digLine(6, 4, 2));
    }

    private void sensorsAreUnchanged() {
        busy("addSensor at no cell", Check.INDEX, w -> w.addSensor(8, 5));
        busy("read by -1", Check.INDEX, w -> w.read(-1, 50));
        busy("read by one too many", Check.INDEX, w -> w.read(3, 50));
        busy("read too little", Check.ARGUMENT, w -> w.read(0, -1));
        busy("read too much", Check.ARGUMENT, w -> w.read(2, 10000));
        refused("the first to read, too much", Check.ARGUMENT, () -> Made.withSensors(3), w -> w.read(0, 10000));
        refused("read where there is none", Check.INDEX, SmokeWard::new, w -> w.read(0, 0));
        busy("trust", Check.INDEX, w -> w.trust(3));
        busy("stateOf", Check.INDEX, w -> w.stateOf(3));
        busy("judged", Check.INDEX, w -> w.judged(3));
        refused("judged without neighbours", Check.UNSUPPORTED, () -> Made.withSensors(3), w -> w.judged(0));
        refused("trustShare", Check.ARITHMETIC, SmokeWard::new, w -> w.trustShare());
    }

    private void warningsAreUnchanged() {
        busy("subscribe at no cell", Check.INDEX, w -> w.subscribe(8, 2, 20, 0, 23));
        int[][] rows = {{19, 0, 23}, {10000, 0, 23}, {20, -1, 23}, {20, 24, 23}, {20, 0, -1}, {20, 0, 24}};
        for (int[] row : rows) {
            busy("subscribe", Check.ARGUMENT, w -> w.subscribe(2, 2, row[0], row[1], row[2]));
        }
        busy("addSchool at no cell", Check.INDEX, w -> w.addSchool(2, 6, 20));
        busy("addSchool too little", Check.ARGUMENT, w -> w.addSchool(2, 2, 19));
        busy("addSchool too much", Check.ARGUMENT, w -> w.addSchool(2, 2, 10000));
        busy("isOpen", Check.INDEX, w -> w.isOpen(2));
        busy("isWarned", Check.INDEX, w -> w.isWarned(2));
        busy("pass back", Check.ARGUMENT, w -> w.pass(-1));
        busy("pass too little", Check.ARGUMENT, w -> w.pass(0));
        busy("pass too much", Check.ARGUMENT, w -> w.pass(25));
    }

    private void looksAreRefused() {
        busy("fuel", Check.INDEX, w -> w.fuel(8, 0));
        busy("fire", Check.INDEX, w -> w.fire(0, 6));
        busy("smoke", Check.INDEX, w -> w.smoke(-1, 0));
        busy("hasLine", Check.INDEX, w -> w.hasLine(0, -1));
        busy("left", Check.ARGUMENT, w -> w.left(3));
        busy("forecast at no cell", Check.INDEX, w -> w.forecast(8, 0, 12));
        busy("forecast too far", Check.ARGUMENT, w -> w.forecast(0, 0, 13));
        busy("worst at no cell", Check.INDEX, w -> w.worst(0, 6, 12));
        busy("worst too near", Check.ARGUMENT, w -> w.worst(0, 0, 0));
        busy("warnedAt", Check.INDEX, w -> w.warnedAt(999));
        busy("warnedWhom", Check.INDEX, w -> w.warnedWhom(999));
        busy("warnedBy", Check.INDEX, w -> w.warnedBy(-1));
    }

    private void fullOnesAreUnchanged() {
        refused("addSensor, the 11th", Check.STATE, Made::full, w -> w.addSensor(1, 1));
        refused("subscribe, the 13th", Check.STATE, Made::full, w -> w.subscribe(1, 1, 20, 0, 23));
        refused("addSchool, the 7th", Check.STATE, Made::full, w -> w.addSchool(1, 1, 20));
    }

    private void lateOnesAreUnchanged() {
        refused("pass at 999", Check.STATE, Made::late, w -> w.pass(1));
        refused("a day at 976", Check.STATE, () -> {
            SmokeWard ward = Made.atHour(976);
            ward.light(2, 2, 5);
            return ward;
        }, w -> w.pass(24));
    }

    private void first(String what, String due, Made.Maker maker, Made.Use use) {
        check.thrown(what, due, () -> use.of(maker.make()));
    }

    private void firstOfTheLand() {
        first("setFuel: cell, fuel", Check.INDEX, Made::busy, w -> w.setFuel(-1, 0, 100));
        first("light: cell, fire", Check.INDEX, Made::busy, w -> w.light(8, 0, 0));
        first("light: fire, no fuel", Check.ARGUMENT, Made::busy, w -> w.light(0, 5, 0));
        first("light: fire, no fuel", Check.ARGUMENT, Made::busy, w -> w.light(0, 5, 10));
        first("light: fire, a line", Check.ARGUMENT, Made::busy, w -> w.light(5, 2, 10));
        first("digLine: cell, crew", Check.INDEX, Made::busy, w -> w.digLine(0, 6, 3));
        first("digLine: crew, a line", Check.ARGUMENT, Made::busy, w -> w.digLine(5, 2, 3));
        first("digLine: crew, a fire", Check.ARGUMENT, Made::busy, w -> w.digLine(6, 4, -1));
        first("forecast: cell, hours", Check.INDEX, Made::busy, w -> w.forecast(8, 0, 0));
        first("worst: cell, hours", Check.INDEX, Made::busy, w -> w.worst(0, 6, 13));
    }

    private void firstOfSensors() {
        first("addSensor: cell, ten", Check.INDEX, Made::full, w -> w.addSensor(0, 6));
        first("read: sensor, value", Check.INDEX, Made::full, w -> w.read(10, -1));
        first("read: no sensor yet, value", Check.INDEX, SmokeWard::new, w -> w.read(0, 10000));
        first("judged: sensor, nobody has read", Check.INDEX, SmokeWard::new, w -> w.judged(0));
    }

    private void firstOfWarnings() {
        first("subscribe: cell, numbers", Check.INDEX, Made::busy, w -> w.subscribe(8, 0, 19, 24, 24));
        first("subscribe: cell, numbers, twelve", Check.INDEX, Made::full, w -> w.subscribe(8, 0, 19, 24, 24));
        first("subscribe: cell, twelve", Check.INDEX, Made::full, w -> w.subscribe(0, -1, 20, 0, 23));
        first("subscribe: bound, twelve", Check.ARGUMENT, Made::full, w -> w.subscribe(0, 0, 19, 0, 23));
        first("subscribe: from, twelve", Check.ARGUMENT, Made::full, w -> w.subscribe(0, 0, 20, 24, 23));
        first("subscribe: till, twelve", Check.ARGUMENT, Made::full, w -> w.subscribe(0, 0, 20, 0, -1));
        first("addSchool: cell, bound", Check.INDEX, Made::busy, w -> w.addSchool(8, 0, 19));
        first("addSchool: cell, six", Check.INDEX, Made::full, w -> w.addSchool(8, 0, 20));
        first("addSchool: bound, six", Check.ARGUMENT, Made::full, w -> w.addSchool(0, 0, 10000));
    }

    private void firstOfHours() {
        int[] hours = {Integer.MIN_VALUE, -1, 0, 25, 1000, Integer.MAX_VALUE};
        for (int number : hours) {
            first("pass " + number + " at 999", Check.ARGUMENT, Made::late, w -> w.pass(number));
        }
    }
}
