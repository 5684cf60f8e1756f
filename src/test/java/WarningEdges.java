/** Subscribers, warnings and schools. Promises 12 to 15 and 25 to 29. */
final class WarningEdges {
    private static final String OUT_OF_RANGE = "Throws `IllegalArgumentException` if a number is out of range";

    private final Sentences sentences;
    private final Check check;
    private final Arguments arguments;

    WarningEdges(Sentences sentences) {
        this.sentences = sentences;
        check = sentences.check;
        arguments = new Arguments(sentences);
    }

    void all() {
        steps();
        terms();
        subscribe();
        addSchool();
        isOpen();
        isWarned();
        warnings();
        warnedAt();
        warnedWhom();
        warnedBy();
        closings();
    }

    private void steps() {
        sentences.in("Terms");
        sentences.hold("7. Warnings.", () -> {
            SmokeWard ward = new SmokeWard();
            ward.addSensor(2, 2);
            ward.subscribe(2, 2, 100, 0, 23);
            Made.hourOf(ward, 300);
            check.yes("by what is mended in this hour", ward.isWarned(0));
        });
        sentences.hold("8. Schools, when the hour is the last one of a day.", this::whenSchoolsAreDecided);
    }

    private void whenSchoolsAreDecided() {
        int[] lastHours = {23, 47, 983};
        for (int last : lastHours) {
            SmokeWard ward = Made.atHour(last - 1);
            ward.addSchool(2, 2, 20);
            ward.setFuel(2, 2, 99);
            ward.light(2, 2, 9);
            ward.pass(1);
            check.yes("an hour ahead of the last one, " + last, ward.isOpen(0));
            ward.pass(1);
            check.no("the last one, " + last, ward.isOpen(0));
            SmokeWard behind = Made.atHour(last + 1);
            behind.addSchool(2, 2, 20);
            behind.light(2, 2, 9);
            behind.pass(1);
            check.yes("an hour behind the last one, " + last, behind.isOpen(0));
        }
        SmokeWard mended = Made.atHour(23);
        mended.addSchool(2, 2, 95);
        mended.addSensor(2, 2);
        Made.hourOf(mended, 300);
        check.no("by what is mended in this hour", mended.isOpen(0));
    }

    private void terms() {
        sentences.hold("Warnings. A subscriber has the hours of the day from the first one up to the last one,",
            this::hoursOfTheDay);
        sentences.hold("over midnight if that is ahead of it.", this::overMidnight);
        sentences.hold("In these, one who is not warned is warned when the smoke of the cell is the bound or more;",
            this::warnedByTheBound);
        sentences.hold("one who is warned is told that it is over, in any hour, when it is less than the bound "
            + "by more than 10.", this::over);
        sentences.hold("Schools. At the last hour of a day, which has 24,", this::whenSchoolsAreDecided);
        sentences.hold("a school is closed if the worst smoke of its cell in the next 12 hours is its bound or more, "
            + "otherwise open.", this::whatClosesSchools);
    }

    /** Whether one with these hours is warned in this hour, the first one with smoke. */
    private static boolean isWarnedIn(int hour, int from, int till) {
        SmokeWard ward = Made.atHour(hour);
        ward.subscribe(2, 2, 20, from, till);
        ward.light(2, 2, 9);
        ward.pass(1);
        return ward.isWarned(0);
    }

    private void warnedIn(int from, int till, boolean[] due) {
        for (int hour = 0; hour < 24; hour++) {
            String what = from + " to " + till + " in " + hour;
            check.same(what, isWarnedIn(hour, from, till) ? 1 : 0, due[hour] ? 1 : 0);
        }
    }

    private void hoursOfTheDay() {
        for (int from = 0; from < 24; from++) {
            for (int till = from; till < 24; till++) {
                boolean[] due = new boolean[24];
                for (int hour = from; hour <= till; hour++) {
                    due[hour] = true;
                }
                warnedIn(from, till, due);
            }
        }
        check.yes("in the first hour of the next day", isWarnedIn(24, 0, 0));
        check.no("in the second one", isWarnedIn(25, 0, 0));
        check.yes("in the last hour that there is, of the hour 14", isWarnedIn(998, 14, 14));
        check.no("not that of 15", isWarnedIn(998, 15, 15));
    }

    private void overMidnight() {
        for (int till = 0; till < 24; till++) {
            for (int from = till + 1; from < 24; from++) {
                boolean[] due = new boolean[24];
                for (int hour = from; hour <= till + 24; hour++) {
                    due[hour % 24] = true;
                }
                warnedIn(from, till, due);
            }
        }
        check.yes("in the first hour of the next day", isWarnedIn(24, 22, 1));
        check.yes("in the last one", isWarnedIn(25, 22, 1));
        check.no("behind it", isWarnedIn(26, 22, 1));
    }

    private void warnedByTheBound() {
        int[][] rows = {{20, 19, 0}, {20, 20, 1}, {20, 21, 1}, {100, 99, 0}, {100, 100, 1}, {3333, 3332, 0},
            {3333, 3333, 1}, {9999, 3333, 0}};
        for (int[] row : rows) {
            SmokeWard ward = new SmokeWard();
            ward.addSensor(7, 5);
            ward.subscribe(7, 5, row[0], 0, 23);
            ward.subscribe(6, 5, row[0], 0, 23);
            Made.bringSmoke(ward, 0, 7, 5, row[1]);
            check.same("the smoke", ward.smoke(7, 5), row[1]);
            check.same(row[1] + " by the bound " + row[0], ward.isWarned(0) ? 1 : 0, row[2]);
            check.no("in the next cell", ward.isWarned(1));
        }
        SmokeWard ward = Made.withSmoke(2, 2, 200);
        ward.subscribe(2, 2, 20, 0, 0);
        ward.subscribe(2, 2, 20, 1, 1);
        ward.pass(1);
        check.no("out of these hours", ward.isWarned(0));
        check.yes("in these", ward.isWarned(1));
        check.same("who is warned is not warned again", warningsAfterMore(ward), 1);
    }

    private static int warningsAfterMore(SmokeWard ward) {
        ward.light(2, 2, 9);
        ward.pass(2);
        return ward.warnings();
    }

    private void over() {
        int[][] rows = {{100, 100, 1}, {100, 95, 1}, {100, 91, 1}, {100, 90, 1}, {100, 89, 0}, {100, 70, 0},
            {20, 13, 1}, {20, 10, 1}, {20, 9, 0}};
        for (int[] row : rows) {
            SmokeWard ward = new SmokeWard();
            ward.addSensor(7, 5);
            ward.subscribe(7, 5, row[0], 0, 0);
            Made.bringSmoke(ward, 0, 7, 5, row[0]);
            check.yes("warned", ward.isWarned(0));
            if (row[1] < 13) {
                Made.bringSmoke(ward, 0, 7, 5, 13);
            }
            Made.bringSmoke(ward, 0, 7, 5, row[1]);
            check.same("the smoke", ward.smoke(7, 5), row[1]);
            check.same(row[1] + " by the bound " + row[0], ward.isWarned(0) ? 1 : 0, row[2]);
            check.same("what is over is no warning", ward.warnings(), 1);
        }
    }

    private void whatClosesSchools() {
        int[][] rows = {{19, 20, 1}, {20, 20, 1}, {21, 20, 0}, {100, 95, 0}, {100, 96, 1}, {100, 100, 1}, {99, 96, 1}};
        for (int[] row : rows) {
            SmokeWard ward = Made.atHour(23);
            ward.addSensor(7, 5);
            ward.addSchool(7, 5, row[1]);
            Made.bringSmoke(ward, 0, 7, 5, row[0]);
            check.same(row[0] + ", less what settles next, by " + row[1], ward.isOpen(0) ? 1 : 0, row[2]);
            check.same("closings", ward.closings(), 1 - row[2]);
        }
        SmokeWard grows = Made.atHour(23);
        grows.setFuel(2, 2, 99);
        grows.addSchool(2, 2, 375);
        grows.addSchool(2, 2, 376);
        grows.light(2, 2, 4);
        grows.pass(1);
        check.same("in 11 hours", grows.worst(2, 2, 11), 354);
        check.same("in 12 hours", grows.worst(2, 2, 12), 375);
        check.no("by the twelfth hour", grows.isOpen(0));
        check.yes("not by the one behind it", grows.isOpen(1));
        grows.pass(1);
        check.yes("which is worse", grows.worst(2, 2, 12) > 375);
        SmokeWard opens = Made.atHour(23);
        opens.addSchool(2, 2, 20);
        opens.light(2, 2, 9);
        opens.pass(1);
        check.no("closed", opens.isOpen(0));
        opens.setRain(9);
        opens.pass(23);
        check.no("all day", opens.isOpen(0));
        opens.pass(1);
        check.yes("otherwise open", opens.isOpen(0));
    }

    private void subscribe() {
        sentences.in("Promise 12: subscribe");
        sentences.hold("Adds a subscriber.", () -> {
            SmokeWard ward = new SmokeWard();
            check.thrown("none yet", Check.INDEX, () -> ward.isWarned(0));
            ward.subscribe(0, 0, 20, 0, 0);
            check.no("one who is not warned", ward.isWarned(0));
        });
        arguments.cell((w, x, y) -> w.subscribe(x, y, 20, 0, 23));
        sentences.hold("- `bound`: the bound, 20 to 9999", () -> arguments.range(20, 9999, Check.ARGUMENT, SmokeWard::new,
            (w, bound) -> w.subscribe(7, 5, bound, 23, 0)));
        sentences.hold("- `from`: the first hour of the day, 0 to 23", () -> arguments.range(0, 23, Check.ARGUMENT,
            SmokeWard::new, (w, from) -> w.subscribe(7, 5, 9999, from, 23)));
        sentences.hold("- `till`: the last one, 0 to 23, perhaps ahead of the first one", () -> {
            arguments.range(0, 23, Check.ARGUMENT, SmokeWard::new, (w, till) -> w.subscribe(7, 5, 20, 0, till));
            arguments.range(0, 23, Check.ARGUMENT, SmokeWard::new, (w, till) -> w.subscribe(7, 5, 20, 23, till));
        });
        sentences.hold("Returns the number.", () -> {
            SmokeWard ward = new SmokeWard();
            for (int i = 0; i < 12; i++) {
                check.same("the number", ward.subscribe(i % 8, i % 6, 20, i, 0), i);
            }
        });
        arguments.noCell((w, x, y) -> w.subscribe(x, y, 20, 0, 23));
        sentences.hold(OUT_OF_RANGE, this::subscribersOutOfRange);
        sentences.hold("Throws `IllegalStateException` if there are 12", () -> {
            SmokeWard ward = Made.with(w -> subscribers(w, 11));
            check.thrown("the twelfth", Check.NOTHING, () -> ward.subscribe(0, 0, 20, 0, 0));
            check.thrown("one more", Check.STATE, () -> ward.subscribe(0, 0, 20, 0, 0));
            ward.pass(24);
            check.thrown("a day behind", Check.STATE, () -> ward.subscribe(7, 5, 9999, 23, 23));
        });
    }

    private static void subscribers(SmokeWard ward, int count) {
        for (int i = 0; i < count; i++) {
            ward.subscribe(2, 2, 20, 0, 23);
        }
    }

    private void subscribersOutOfRange() {
        int[][] rows = {{19, 0, 0}, {10000, 0, 0}, {20, -1, 0}, {20, 24, 0}, {20, 0, -1}, {20, 0, 24}, {19, 24, 24}};
        for (int[] row : rows) {
            check.thrown(row[0] + ", " + row[1] + ", " + row[2], Check.ARGUMENT,
                () -> new SmokeWard().subscribe(0, 0, row[0], row[1], row[2]));
        }
    }

    private void addSchool() {
        sentences.in("Promise 13: addSchool");
        sentences.hold("Adds a school, which is open.", () -> {
            SmokeWard ward = Made.atHour(23);
            ward.light(2, 2, 9);
            check.thrown("none yet", Check.INDEX, () -> ward.isOpen(0));
            ward.addSchool(2, 2, 20);
            check.yes("open, whatever comes", ward.isOpen(0));
            ward.pass(1);
            ward.addSchool(2, 2, 20);
            check.no("closed", ward.isOpen(0));
            check.yes("the next one is open", ward.isOpen(1));
        });
        arguments.cell((w, x, y) -> w.addSchool(x, y, 20));
        sentences.hold("- `bound`: the bound, 20 to 9999", () -> arguments.range(20, 9999, Check.ARGUMENT, SmokeWard::new,
            (w, bound) -> w.addSchool(7, 5, bound)));
        sentences.hold("Returns its number.", () -> {
            SmokeWard ward = new SmokeWard();
            for (int i = 0; i < 6; i++) {
                check.same("the number", ward.addSchool(i, i, 20), i);
            }
        });
        arguments.noCell((w, x, y) -> w.addSchool(x, y, 20));
        sentences.hold("Throws `IllegalArgumentException` if it is out of range", () -> {
            check.thrown("1 too little", Check.ARGUMENT, () -> new SmokeWard().addSchool(0, 0, 19));
            check.thrown("1 too much", Check.ARGUMENT, () -> new SmokeWard().addSchool(0, 0, 10000));
        });
        sentences.hold("Throws `IllegalStateException` if there are 6", () -> {
            SmokeWard ward = Made.with(w -> schools(w, 5));
            check.thrown("the sixth", Check.NOTHING, () -> ward.addSchool(0, 0, 20));
            check.thrown("one more", Check.STATE, () -> ward.addSchool(0, 0, 20));
            ward.pass(24);
            check.thrown("a day behind", Check.STATE, () -> ward.addSchool(7, 5, 9999));
        });
    }

    private static void schools(SmokeWard ward, int count) {
        for (int i = 0; i < count; i++) {
            ward.addSchool(2, 2, 20);
        }
    }

    private void isOpen() {
        sentences.in("Promise 14: isOpen");
        sentences.hold("Returns whether a school is open.", this::whatClosesSchools);
        sentences.hold("- `school`: the number of the school", () -> {
            for (int count = 1; count <= 6; count++) {
                int some = count;
                arguments.range(0, count - 1, Check.INDEX, () -> Made.with(w -> schools(w, some)), (w, i) -> w.isOpen(i));
            }
        });
        sentences.hold("Returns whether it is.", () -> {
            SmokeWard ward = Made.atHour(23);
            for (int i = 0; i < 6; i++) {
                ward.addSchool(2, 2, i % 2 == 0 ? 20 : 9999);
            }
            ward.light(2, 2, 9);
            ward.pass(1);
            for (int i = 0; i < 6; i++) {
                check.same("school " + i, ward.isOpen(i) ? 1 : 0, i % 2);
            }
        });
        sentences.hold("Throws `IndexOutOfBoundsException` if there is no such school", () -> {
            check.thrown("the first where there is none", Check.INDEX, () -> new SmokeWard().isOpen(0));
            check.thrown("1 behind the last", Check.INDEX, () -> Made.busy().isOpen(2));
            check.thrown("1 below the first", Check.INDEX, () -> Made.busy().isOpen(-1));
            check.thrown("1 behind the most", Check.INDEX, () -> Made.full().isOpen(6));
        });
    }

    private void isWarned() {
        sentences.in("Promise 15: isWarned");
        sentences.hold("Returns whether a subscriber was warned, and not told that it is over.", this::over);
        sentences.hold("- `subscriber`: the number of the subscriber", () -> {
            for (int count = 1; count <= 12; count++) {
                int some = count;
                arguments.range(0, count - 1, Check.INDEX, () -> Made.with(w -> subscribers(w, some)),
                    (w, i) -> w.isWarned(i));
            }
        });
        sentences.hold("Returns whether this one is.", () -> {
            SmokeWard ward = new SmokeWard();
            for (int i = 0; i < 12; i++) {
                ward.subscribe(2, 2, i % 2 == 0 ? 20 : 9999, 0, 23);
            }
            ward.light(2, 2, 9);
            ward.pass(1);
            for (int i = 0; i < 12; i++) {
                check.same("subscriber " + i, ward.isWarned(i) ? 1 : 0, 1 - i % 2);
            }
        });
        sentences.hold("Throws `IndexOutOfBoundsException` if there is no such subscriber", () -> {
            check.thrown("the first where there is none", Check.INDEX, () -> new SmokeWard().isWarned(0));
            check.thrown("1 behind the last", Check.INDEX, () -> Made.busy().isWarned(2));
            check.thrown("1 below the first", Check.INDEX, () -> Made.busy().isWarned(-1));
            check.thrown("1 behind the most", Check.INDEX, () -> Made.full().isWarned(12));
        });
    }

    /** Warned in the hour 1, over in the hour 4, warned again in the hour 5; the second subscriber in the hour 5. */
    private static SmokeWard warnedTwice() {
        SmokeWard ward = new SmokeWard();
        ward.addSensor(2, 2);
        ward.subscribe(2, 2, 100, 0, 23);
        ward.subscribe(2, 2, 200, 0, 23);
        ward.pass(1);
        int[] smokes = {100, 91, 90, 80, 230};
        for (int smoke : smokes) {
            Made.bringSmoke(ward, 0, 2, 2, smoke);
        }
        return ward;
    }

    private void warnings() {
        sentences.in("Promise 25: warnings");
        sentences.hold("Returns how many warnings there were, those that it is over not counted.", () -> {
            SmokeWard ward = new SmokeWard();
            ward.subscribe(2, 2, 80, 0, 23);
            ward.light(2, 2, 9);
            ward.pass(1);
            check.yes("warned", ward.isWarned(0));
            check.same("one", ward.warnings(), 1);
            ward.setRain(9);
            ward.pass(1);
            check.no("over", ward.isWarned(0));
            check.same("still one", ward.warnings(), 1);
        });
        sentences.hold("Returns the number of warnings.", () -> {
            check.same("none yet", new SmokeWard().warnings(), 0);
            check.same("two to one, one to another", warnedTwice().warnings(), 3);
            check.same("more than there are subscribers", manyWarnings().warnings(), 1200);
        });
    }

    /** All 12 subscribers are warned in every other hour, a hundred times. */
    private static SmokeWard manyWarnings() {
        SmokeWard ward = Made.withSensors(1);
        for (int i = 0; i < 12; i++) {
            ward.subscribe(3, 3, 1000, 0, 23);
        }
        ward.setRain(9);
        for (int i = 0; i < 100; i++) {
            Made.hourOf(ward, 9999);
            ward.pass(5);
        }
        return ward;
    }

    private interface Told {
        int of(SmokeWard ward, int warning);
    }

    private void number(Told told) {
        sentences.hold("- `warning`: the number of the warning, from 0", () -> {
            arguments.range(0, 2, Check.INDEX, WarningEdges::warnedTwice, (w, warning) -> told.of(w, warning));
            SmokeWard many = manyWarnings();
            check.thrown("the last of many", Check.NOTHING, () -> told.of(many, 1199));
            check.thrown("1 behind it", Check.INDEX, () -> told.of(many, 1200));
        });
    }

    private void noNumber(Told told) {
        sentences.hold("Throws `IndexOutOfBoundsException` if there is no such warning", () -> {
            check.thrown("the first where there is none", Check.INDEX, () -> told.of(new SmokeWard(), 0));
            SmokeWard ward = new SmokeWard();
            ward.subscribe(2, 2, 20, 0, 23);
            check.thrown("nobody is warned yet", Check.INDEX, () -> told.of(ward, 0));
            check.thrown("1 below the first", Check.INDEX, () -> told.of(warnedTwice(), -1));
            check.thrown("1 behind the last", Check.INDEX, () -> told.of(warnedTwice(), 3));
        });
    }

    private void tells(Told told, int... due) {
        SmokeWard ward = warnedTwice();
        for (int i = 0; i < due.length; i++) {
            check.same("warning " + i, told.of(ward, i), due[i]);
        }
    }

    private void warnedAt() {
        Told at = (ward, warning) -> ward.warnedAt(warning);
        sentences.in("Promise 26: warnedAt");
        sentences.hold("Returns when a warning was given.", () -> tells(at, 1, 5, 5));
        number(at);
        sentences.hold("Returns the hour.", () -> {
            SmokeWard ward = Made.with(w -> subscribers(w, 1));
            ward.light(2, 2, 9);
            ward.pass(24);
            check.same("the first hour that there is", ward.warnedAt(0), 0);
            SmokeWard late = Made.atHour(998);
            late.subscribe(2, 2, 20, 0, 23);
            late.light(2, 2, 9);
            late.pass(1);
            check.same("the last hour that passes", late.warnedAt(0), 998);
            check.same("the last of many", manyWarnings().warnedAt(1199), 594);
        });
        noNumber(at);
    }

    private void warnedWhom() {
        Told whom = (ward, warning) -> ward.warnedWhom(warning);
        sentences.in("Promise 27: warnedWhom");
        sentences.hold("Returns whom a warning was for.", () -> tells(whom, 0, 0, 1));
        number(whom);
        sentences.hold("Returns the subscriber.", () -> {
            SmokeWard ward = manyWarnings();
            for (int i = 0; i < 24; i++) {
                check.same("of the first", ward.warnedWhom(i), i % 12);
                check.same("of the last", ward.warnedWhom(1176 + i), i % 12);
            }
        });
        noNumber(whom);
    }

    private void warnedBy() {
        Told by = (ward, warning) -> ward.warnedBy(warning);
        sentences.in("Promise 28: warnedBy");
        sentences.hold("Returns the smoke that was known then.", () -> tells(by, 100, 230, 230));
        number(by);
        sentences.hold("Returns the smoke.", () -> {
            SmokeWard ward = warnedTwice();
            ward.pass(24);
            check.yes("there is less now", ward.smoke(2, 2) < 230);
            check.same("as it was then", ward.warnedBy(2), 230);
            check.same("the first of many", manyWarnings().warnedBy(0), 3333);
        });
        noNumber(by);
    }

    private void closings() {
        sentences.in("Promise 29: closings");
        sentences.hold("Returns how often a school that was open was closed.", () -> {
            SmokeWard ward = Made.atHour(23);
            ward.addSchool(2, 2, 20);
            ward.addSchool(2, 2, 9999);
            ward.setFuel(2, 2, 99);
            ward.light(2, 2, 2);
            ward.pass(1);
            check.same("one", ward.closings(), 1);
            ward.pass(24);
            check.no("closed still", ward.isOpen(0));
            check.same("not one that is closed", ward.closings(), 1);
            ward.setFuel(2, 2, 0);
            ward.setRain(9);
            ward.pass(24);
            check.yes("open again", ward.isOpen(0));
            check.same("opening is none", ward.closings(), 1);
            ward.setFuel(2, 2, 99);
            ward.setRain(0);
            ward.light(2, 2, 2);
            ward.pass(24);
            check.same("again", ward.closings(), 2);
        });
        sentences.hold("Returns the number of closings.", () -> {
            check.same("without schools", Made.atHour(48).closings(), 0);
            SmokeWard ward = Made.atHour(23);
            schools(ward, 6);
            ward.light(2, 2, 9);
            check.same("none yet", ward.closings(), 0);
            ward.pass(1);
            check.same("all six", ward.closings(), 6);
        });
    }
}
