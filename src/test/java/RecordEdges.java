/** A new object, hours, the sums of smoke, isKept and isSame. Promises 1, 16, 17, 30 to 32 and 35 to 37. */
final class RecordEdges {
    private static final int CALLS = 512;

    private final Sentences sentences;
    private final Check check;
    private final Arguments arguments;

    RecordEdges(Sentences sentences) {
        this.sentences = sentences;
        check = sentences.check;
        arguments = new Arguments(sentences);
    }

    void all() {
        whatItIs();
        aNewObject();
        pass();
        hour();
        made();
        blown();
        settled();
        meanSmoke();
        isKept();
        isSame();
    }

    private void whatItIs() {
        sentences.in("What it is");
        sentences.hold("An object is used for at most 512 calls after it has been made; what later calls answer is free.",
            this::theLastCall);
    }

    private interface NumberedUse {
        void of(SmokeWard ward, int number);
    }

    private void theLastCall() {
        NumberedUse[] uses = {(w, i) -> w.setFuel(i % 8, i % 6, i % 100), (w, i) -> w.light(i % 8, i % 6, 1 + i % 9),
            (w, i) -> w.setWind(1, 0, i % 5), (w, i) -> w.setRain(i % 10), (w, i) -> w.digLine(i % 8, i % 6, i % 3),
            (w, i) -> w.isSame(), (w, i) -> Check.nameOfThrown(() -> w.pass(25))};
        for (int kind = 0; kind < uses.length; kind++) {
            SmokeWard ward = new SmokeWard();
            for (int i = 1; i < CALLS; i++) {
                uses[kind].of(ward, i);
            }
            check.same("the last call is an hour, kind " + kind, ward.pass(1), 1);
            SmokeWard asked = new SmokeWard();
            for (int i = 1; i < CALLS; i++) {
                uses[kind].of(asked, i);
            }
            check.yes("the last call asks, kind " + kind, asked.isSame());
        }
        SmokeWard ward = Made.withSensors(1);
        for (int i = 2; i < CALLS - 1; i++) {
            ward.read(0, i);
        }
        ward.pass(1);
        check.same("the last call sees the last reading, 510", ward.smoke(3, 3), 170);
        SmokeWard readings = Made.withSensors(1);
        for (int i = 2; i < CALLS; i++) {
            readings.read(0, i);
        }
        check.yes("the last call does 511 acts again", readings.isSame());
    }

    private void aNewObject() {
        sentences.in("Promise 1: A new object");
        sentences.hold("Creates a service for a land without fires, at the hour 0.", () -> {
            SmokeWard ward = new SmokeWard();
            check.same("hour", ward.hour(), 0);
            for (int i = 0; i < 48; i++) {
                check.same("fire", ward.fire(i % 8, i / 8), 0);
                check.no("line", ward.hasLine(i % 8, i / 8));
            }
            check.same("wind", ward.setWind(0, 0, 0), 0);
            check.same("rain", ward.setRain(0), 0);
            check.thrown("no sensor", Check.INDEX, () -> ward.trust(0));
            check.thrown("no subscriber", Check.INDEX, () -> ward.isWarned(0));
            check.thrown("no school", Check.INDEX, () -> ward.isOpen(0));
            check.thrown("no warning", Check.INDEX, () -> ward.warnedAt(0));
            check.same("crews", ward.left(0) + ward.left(1) + ward.left(2), 0);
            check.same("worst to come", ward.worst(0, 0, 12), 0);
            ward.pass(24);
            check.same("nothing comes of nothing", ward.made() + ward.warnings() + ward.closings(), 0);
        });
    }

    private void pass() {
        sentences.in("Terms");
        sentences.hold("Then the hour becomes 1 more;", () -> {
            SmokeWard ward = new SmokeWard();
            for (int hour = 1; hour <= 60; hour++) {
                check.same("passed", ward.pass(1), hour);
            }
        });
        sentences.in("Promise 16: pass");
        sentences.hold("Lets hours pass.", this::hoursOneByOne);
        sentences.hold("- `hours`: how many hours, 1 to 24",
            () -> arguments.range(1, 24, Check.ARGUMENT, SmokeWard::new, (w, hours) -> w.pass(hours)));
        sentences.hold("Returns the hour.", () -> {
            for (int hours = 1; hours <= 24; hours++) {
                SmokeWard ward = Made.atHour(970);
                check.same("behind " + hours, ward.pass(hours), 970 + hours);
                check.same("as hour tells", ward.hour(), 970 + hours);
            }
        });
        sentences.hold("Throws `IllegalArgumentException` if the number is out of range", () -> {
            check.thrown("no hour", Check.ARGUMENT, () -> new SmokeWard().pass(0));
            check.thrown("an hour back", Check.ARGUMENT, () -> new SmokeWard().pass(-1));
            check.thrown("more than a day", Check.ARGUMENT, () -> new SmokeWard().pass(25));
        });
        sentences.hold("Throws `IllegalStateException` if the hour would be greater than 999", this::theLastHour);
    }

    private void hoursOneByOne() {
        int[][] rows = {{1, 23}, {12, 12}, {23, 1}, {24, 24}};
        for (int[] row : rows) {
            SmokeWard ward = Made.busy();
            ward.pass(row[0]);
            ward.pass(row[1]);
            SmokeWard slow = Made.busy();
            for (int i = 0; i < row[0] + row[1]; i++) {
                slow.pass(1);
            }
            check.same(row[0] + " and " + row[1] + " at once or one by one", Picture.of(ward), Picture.of(slow));
        }
    }

    private void theLastHour() {
        for (int hours = 1; hours <= 24; hours++) {
            int most = hours;
            check.thrown(hours + " up to 999", Check.NOTHING, () -> Made.atHour(999 - most).pass(most));
            check.thrown(hours + " up to 1000", Check.STATE, () -> Made.atHour(1000 - most).pass(most));
            check.thrown(hours + " at 999", Check.STATE, () -> Made.atHour(999).pass(most));
        }
        SmokeWard ward = Made.late();
        check.thrown("refused", Check.STATE, () -> ward.pass(1));
        check.same("the hour stays", ward.hour(), 999);
        check.thrown("and again", Check.STATE, () -> ward.pass(24));
        check.same("acts go on", ward.setFuel(7, 5, 9), 10);
        check.yes("same", ward.isSame());
        check.yes("kept", ward.isKept());
    }

    private void hour() {
        sentences.in("Promise 17: hour");
        sentences.hold("Returns the hour.", () -> check.same("the greatest", Made.atHour(999).hour(), 999));
        sentences.hold("Returns the hour, 0 at first.", () -> {
            check.same("at first", new SmokeWard().hour(), 0);
            SmokeWard ward = Made.withSensors(1);
            ward.read(0, 1);
            ward.light(0, 0, 9);
            ward.forecast(0, 0, 12);
            check.same("only hours bring it on", ward.hour(), 0);
        });
    }

    private void made() {
        sentences.in("Promise 30: made");
        sentences.hold("Returns how much smoke fires have made.", () -> {
            check.same("without fires", Made.withSmoke(2, 2, 100).made(), 0);
            SmokeWard ward = Made.with(w -> w.light(2, 2, 9));
            check.same("not before the hour", ward.made(), 0);
            ward.worst(2, 2, 12);
            check.same("not by a forecast", ward.made(), 0);
        });
        sentences.hold("Returns the sum.", () -> {
            SmokeWard ward = new SmokeWard();
            ward.light(0, 0, 9);
            ward.light(7, 5, 4);
            ward.setFuel(7, 5, 3);
            ward.pass(1);
            check.same("9 and the last 3", ward.made(), 120);
            SmokeWard all = new SmokeWard();
            for (int i = 0; i < 48; i++) {
                all.setFuel(i % 8, i / 8, 99);
                all.light(i % 8, i / 8, 9);
            }
            all.pass(24);
            check.same("all fuel of the land", all.made(), 48 * 990);
            check.yes("kept", all.isKept());
        });
    }

    private void blown() {
        sentences.in("Promise 31: blown");
        sentences.hold("Returns how much smoke was blown out of the land.", () -> {
            check.same("nothing yet", new SmokeWard().blown(), 0);
            SmokeWard ward = Made.withSmoke(7, 0, 19);
            ward.setWind(1, 0, 4);
            ward.worst(7, 0, 12);
            check.same("not by a forecast", ward.blown(), 0);
            ward.setWind(1, 0, 0);
            ward.pass(1);
            check.same("not without strength", ward.blown(), 0);
        });
        sentences.hold("Returns the sum.", () -> {
            SmokeWard ward = Made.withSmoke(7, 0, 19);
            ward.setWind(1, -1, 4);
            ward.pass(1);
            check.same("19 less 4, 3, 3, 2", ward.blown(), 12);
            ward.pass(1);
            check.same("7 less 1, 1, 1, 1", ward.blown(), 16);
            ward.pass(1);
            check.same("3, of which a quarter is none", ward.blown(), 16);
        });
    }

    private void settled() {
        sentences.in("Promise 32: settled");
        sentences.hold("Returns how much smoke has settled.", () -> {
            check.same("nothing yet", new SmokeWard().settled(), 0);
            SmokeWard ward = Made.withSmoke(7, 0, 19);
            ward.pass(24);
            check.same("less than 1", ward.settled(), 0);
            ward.setRain(9);
            ward.worst(7, 0, 12);
            check.same("not by a forecast", ward.settled(), 0);
        });
        sentences.hold("Returns the sum.", () -> {
            SmokeWard ward = Made.withSmoke(7, 0, 19);
            ward.setRain(9);
            int[] due = {9, 14, 16, 17, 18, 18};
            for (int sum : due) {
                ward.pass(1);
                check.same("19, each hour the half", ward.settled(), sum);
            }
            SmokeWard two = new SmokeWard();
            two.light(0, 0, 2);
            two.light(7, 5, 4);
            two.pass(1);
            check.same("1 and 2", two.settled(), 3);
        });
    }

    private void meanSmoke() {
        sentences.in("Promise 35: meanSmoke");
        sentences.hold("Returns the mean smoke of the cells.", () -> {
            check.same("none", new SmokeWard().meanSmoke(), 0.0);
            check.same("1 in the last cell", Made.withSmoke(7, 5, 1).meanSmoke(), (double) 1 / (double) 48);
            check.same("48 in one", Made.withSmoke(0, 0, 48).meanSmoke(), 1.0);
        });
        sentences.hold("Returns the sum divided by their number, both converted to double.", () -> {
            SmokeWard ward = new SmokeWard();
            int sum = 0;
            for (int i = 0; i < 48; i++) {
                ward.light(i % 8, i / 8, 1 + i % 4);
            }
            ward.pass(1);
            for (int i = 0; i < 48; i++) {
                sum += ward.smoke(i % 8, i / 8);
            }
            check.yes("some", sum > 0);
            check.same("of all", ward.meanSmoke(), (double) sum / (double) 48);
        });
    }

    private void isKept() {
        sentences.in("Promise 36: isKept");
        sentences.hold("Returns whether it is.", () -> {
            check.yes("nothing yet", new SmokeWard().isKept());
            check.yes("made, blown, settled, mended", Made.busy().isKept());
            check.yes("with all there may be", Made.full().isKept());
            check.yes("at the last hour", Made.late().isKept());
            SmokeWard taken = new SmokeWard();
            taken.addSensor(2, 2);
            taken.light(2, 2, 9);
            Made.hourOf(taken, 0);
            check.yes("more taken than added", taken.isKept());
            SmokeWard blown = Made.withSmoke(7, 0, 100);
            blown.setWind(1, 1, 4);
            blown.pass(24);
            check.yes("blown away", blown.isKept());
        });
    }

    private void isSame() {
        sentences.in("Promise 37: isSame");
        sentences.hold("Returns whether the same acts and hours, done again from the beginning, "
            + "give the same smoke, trusts and warnings;", () -> {
                check.yes("nothing done", new SmokeWard().isSame());
                check.yes("within an hour", Made.busy().isSame());
                check.yes("with all there may be", Made.full().isSame());
                check.yes("at the last hour", Made.late().isSame());
                check.yes("with one left out", Made.withOneLeftOut().isSame());
                sameWithEachWarning();
            });
        sentences.hold("nothing changes by that.", () -> {
            check.unchanged("asked when new", SmokeWard::new, w -> w.isSame());
            check.unchanged("asked within an hour", Made::busy, w -> w.isSame());
            check.unchanged("asked when full", Made::full, w -> w.isSame());
            check.unchanged("asked at the last hour", Made::late, w -> w.isSame());
            check.unchanged("asked often", Made::busy, w -> {
                for (int i = 0; i < 20; i++) {
                    w.isSame();
                }
            });
        });
        sentences.hold("Returns whether they do.", () -> {
            SmokeWard ward = Made.withSensors(3);
            ward.subscribe(3, 3, 20, 0, 23);
            for (int hour = 0; hour < 40; hour++) {
                ward.read(0, 50);
                ward.read(1, 60);
                check.yes("between readings", ward.isSame());
                ward.read(2, 25 * hour);
                ward.pass(1);
                check.yes("behind the hour", ward.isSame());
            }
        });
    }

    private void sameWithEachWarning() {
        SmokeWard ward = Made.withSensors(1);
        ward.subscribe(3, 3, 1000, 0, 23);
        ward.setRain(9);
        for (int warnings = 1; warnings <= 100; warnings++) {
            Made.hourOf(ward, 9999);
            check.same("warnings", ward.warnings(), warnings);
            check.yes("with " + warnings + " warnings", ward.isSame());
            ward.pass(2);
        }
    }
}
