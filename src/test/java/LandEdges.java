/** The land: its cells, the steps 1 to 5 of an hour, crews, forecasts. Promises 2 to 6 and 18 to 24. */
final class LandEdges {
    private static final int[][] AROUND = {{-1, -1}, {0, -1}, {1, -1}, {-1, 0}, {1, 0}, {-1, 1}, {0, 1}, {1, 1}};
    private static final int[][] NEXT = {{0, -1}, {-1, 0}, {1, 0}, {0, 1}};

    private final Sentences sentences;
    private final Check check;
    private final Arguments arguments;

    LandEdges(Sentences sentences) {
        this.sentences = sentences;
        check = sentences.check;
        arguments = new Arguments(sentences);
    }

    void all() {
        cells();
        steps();
        crews();
        setFuel();
        light();
        setWind();
        setRain();
        digLine();
        looks();
        left();
        forecast();
        worst();
    }

    private static boolean isCell(int x, int y) {
        return x >= 0 && x < 8 && y >= 0 && y < 6;
    }

    private static void forCells(Arguments.CellUse use) {
        for (int y = 0; y < 6; y++) {
            for (int x = 0; x < 8; x++) {
                use.at(x, y);
            }
        }
    }

    private static long sumOfSmoke(SmokeWard ward) {
        long sum = 0;
        for (int i = 0; i < 48; i++) {
            sum += ward.smoke(i % 8, i / 8);
        }
        return sum;
    }

    private void cells() {
        sentences.in("Terms");
        sentences.hold("Smoke is neither made nor lost between cells.", this::smokeIsKeptBetweenCells);
        sentences.leave("It is not thread-safe.");
        sentences.hold("Cells. There are 8 times 6 cells, x from 0 to 7, y from 0 to 5; their order is by rows, y first.",
            this::eachCellIsItsOwn);
        sentences.hold("Each has the fuel 10 at first, no fire and no smoke.", this::eachCellAtFirst);
        sentences.hold("A wind without strength leads nowhere.", this::windWithoutStrength);
    }

    private void smokeIsKeptBetweenCells() {
        for (int strength = 0; strength <= 4; strength++) {
            SmokeWard ward = Made.withSmoke(2, 2, 16);
            ward.setWind(1, 1, strength);
            ward.pass(1);
            check.same("smoke in all, carried within the land", sumOfSmoke(ward), 16);
            check.same("settled", ward.settled(), 0);
            check.same("blown", ward.blown(), 0);
        }
    }

    private void eachCellIsItsOwn() {
        SmokeWard ward = new SmokeWard();
        forCells((x, y) -> check.same("setFuel", ward.setFuel(x, y, 8 * y + x), 10));
        forCells((x, y) -> check.same("fuel at " + x + ", " + y, ward.fuel(x, y), 8 * y + x));
        check.thrown("a ninth column", Check.INDEX, () -> ward.fuel(8, 0));
        check.thrown("a seventh row", Check.INDEX, () -> ward.fuel(0, 6));
        forCells((x, y) -> {
            SmokeWard one = Made.with(w -> w.light(x, y, 2));
            one.pass(1);
            check.same("smoke at " + x + ", " + y, one.smoke(x, y), 19);
            check.same("and nowhere else", sumOfSmoke(one), 19);
        });
    }

    private void eachCellAtFirst() {
        SmokeWard ward = new SmokeWard();
        forCells((x, y) -> {
            check.same("fuel", ward.fuel(x, y), 10);
            check.same("fire", ward.fire(x, y), 0);
            check.same("smoke", ward.smoke(x, y), 0);
        });
    }

    private void windWithoutStrength() {
        for (int[] way : AROUND) {
            SmokeWard ward = new SmokeWard();
            ward.setWind(way[0], way[1], 0);
            ward.light(3, 3, 4);
            ward.pass(1);
            check.same("fire behind it", ward.fire(3 + way[0], 3 + way[1]), 0);
            check.same("smoke behind it", ward.smoke(3 + way[0], 3 + way[1]), 0);
            check.same("smoke that stays", ward.smoke(3, 3), 38);
        }
    }

    private void steps() {
        sentences.hold("Hours. In an hour, this is done, each step for all cells by what was ahead of the step.",
            this::byWhatWasAheadOfTheStep);
        sentences.hold("1. Crews: each one that digs has an hour less to go; when none is left, the cell has a line, "
            + "and what burns there is out.", this::crewsDig);
        sentences.hold("2. Burning: a fire burns as much fuel as it is strong, as far as there is some, "
            + "and makes 10 smoke of each in its cell.", this::firesBurn);
        sentences.hold("A fire without fuel is out then;", this::firesWithoutFuel);
        sentences.hold("all others become weaker by a third of the rain, cut, 0 at least.", this::rainWeakens);
        sentences.hold("3. Spreading: a cell with fuel that has no line burns, if it burns less, "
            + "as strong as told by its neighbours:", this::whereFireSpreads);
        sentences.hold("1 by each of the four next to it that burns with 5 or more,", this::fireTellsTheFour);
        sentences.hold("and by a cell that burns with 3 or more, from which the wind leads to it, one step in x and y, "
            + "1 more than the wind's strength;", this::fireTellsByWind);
        sentences.hold("of several the greatest.", this::greatestOfSeveral);
        sentences.hold("4. Carrying: as many times as the wind is strong, a quarter, cut, of the smoke of each cell "
            + "goes one step of the wind, all at once;", this::windCarries);
        sentences.hold("what leaves the land is blown out.", this::smokeLeavesTheLand);
        sentences.hold("5. Settling: of the smoke of each cell, 1 more than the rain, of 20 parts, cut, settles.",
            this::smokeSettles);
    }

    private void byWhatWasAheadOfTheStep() {
        for (int way = -1; way <= 1; way += 2) {
            SmokeWard fire = new SmokeWard();
            fire.setWind(way, 0, 4);
            fire.light(4, 2, 3);
            fire.pass(1);
            check.same("fire one step on", fire.fire(4 + way, 2), 5);
            check.same("which has burnt nothing yet", fire.fuel(4 + way, 2), 10);
            check.same("no fire two steps on", fire.fire(4 + 2 * way, 2), 0);
            check.same("no fire next to the new one", fire.fire(4 + way, 3) + fire.fire(4 + way, 1), 0);
            SmokeWard smoke = new SmokeWard();
            smoke.addSensor(4, 2);
            smoke.addSensor(4 + way, 2);
            smoke.read(0, 48);
            smoke.read(1, 48);
            smoke.pass(1);
            smoke.setWind(way, 0, 1);
            smoke.pass(1);
            check.same("16 less 4", smoke.smoke(4, 2), 12);
            check.same("16 less 4, and 4", smoke.smoke(4 + way, 2), 16);
            check.same("4", smoke.smoke(4 + 2 * way, 2), 4);
        }
    }

    private void crewsDig() {
        SmokeWard ward = new SmokeWard();
        ward.light(3, 2, 4);
        check.same("hours", ward.digLine(3, 2, 1), 2);
        ward.pass(1);
        check.same("an hour less", ward.left(1), 1);
        check.no("no line yet", ward.hasLine(3, 2));
        check.same("it burns still", ward.fire(3, 2), 4);
        ward.pass(1);
        check.same("none left", ward.left(1), 0);
        check.yes("a line", ward.hasLine(3, 2));
        check.same("out", ward.fire(3, 2), 0);
        check.same("and ahead of its burning", ward.fuel(3, 2), 6);
        ward.pass(1);
        check.same("not less than none left", ward.left(1), 0);
        forCells((x, y) -> check.same("a line at " + x + ", " + y, ward.hasLine(x, y) ? 1 : 0, x == 3 && y == 2 ? 1 : 0));
    }

    private void firesBurn() {
        for (int fire = 1; fire <= 9; fire++) {
            for (int fuel = 0; fuel <= 11; fuel++) {
                SmokeWard ward = new SmokeWard();
                ward.light(7, 5, fire);
                ward.setFuel(7, 5, fuel);
                ward.pass(1);
                int burnt = Math.min(fire, fuel);
                check.same("fuel " + fuel + " less " + fire, ward.fuel(7, 5), fuel - burnt);
                check.same("smoke of " + burnt, ward.smoke(7, 5) + ward.settled(), 10 * burnt);
                check.same("made of " + burnt, ward.made(), 10 * burnt);
            }
        }
    }

    private void firesWithoutFuel() {
        int[][] rows = {{0, 0}, {1, 0}, {5, 0}, {6, 6}, {99, 6}};
        for (int[] row : rows) {
            SmokeWard ward = new SmokeWard();
            ward.light(1, 1, 6);
            ward.setFuel(1, 1, row[0]);
            ward.pass(1);
            int due = row[0] > 6 ? 6 : 0;
            check.same("fire of 6 with the fuel " + row[0], ward.fire(1, 1), due);
            check.same("it tells the next", ward.fire(2, 1), due > 0 ? 1 : 0);
        }
    }

    private void rainWeakens() {
        for (int rain = 0; rain <= 9; rain++) {
            for (int fire = 1; fire <= 9; fire++) {
                SmokeWard ward = new SmokeWard();
                ward.setFuel(0, 0, 99);
                ward.light(0, 0, fire);
                ward.setRain(rain);
                ward.pass(1);
                check.same("fire " + fire + " in the rain " + rain, ward.fire(0, 0), Math.max(0, fire - rain / 3));
                check.same("it burnt as strong as it was", ward.fuel(0, 0), 99 - fire);
            }
        }
    }

    private void whereFireSpreads() {
        int[][] fuels = {{0, 0}, {1, 1}, {99, 1}};
        for (int[] row : fuels) {
            SmokeWard ward = new SmokeWard();
            ward.setFuel(3, 2, row[0]);
            ward.light(2, 2, 5);
            ward.pass(1);
            check.same("with the fuel " + row[0], ward.fire(3, 2), row[1]);
        }
        SmokeWard line = new SmokeWard();
        line.digLine(3, 2, 0);
        line.pass(1);
        line.light(2, 2, 5);
        line.pass(1);
        check.same("on a line that is done in this hour", line.fire(3, 2), 0);
        line.light(2, 2, 9);
        line.setFuel(2, 2, 99);
        line.pass(1);
        check.same("on a line", line.fire(3, 2), 0);
        int[][] burning = {{0, 3}, {1, 3}, {2, 3}, {3, 3}, {4, 4}, {9, 9}};
        for (int[] row : burning) {
            SmokeWard ward = new SmokeWard();
            ward.setWind(0, 1, 2);
            ward.light(4, 1, 3);
            ward.setFuel(4, 2, 99);
            if (row[0] > 0) {
                ward.light(4, 2, row[0]);
            }
            ward.pass(1);
            check.same("told 3, burning with " + row[0], ward.fire(4, 2), row[1]);
        }
    }

    private void fireTellsTheFour() {
        forCells((x, y) -> {
            SmokeWard ward = Made.with(w -> w.light(x, y, 5));
            ward.pass(1);
            SmokeWard less = Made.with(w -> w.light(x, y, 4));
            less.pass(1);
            forCells((otherX, otherY) -> {
                int far = Math.abs(x - otherX) + Math.abs(y - otherY);
                String what = "from " + x + ", " + y + " at " + otherX + ", " + otherY;
                check.same("by 5 " + what, ward.fire(otherX, otherY), far == 0 ? 5 : far == 1 ? 1 : 0);
                check.same("by 4 " + what, less.fire(otherX, otherY), far == 0 ? 4 : 0);
            });
        });
        int[][] rains = {{2, 5, 1}, {3, 5, 0}, {3, 6, 1}, {9, 7, 0}, {9, 8, 1}};
        for (int[] row : rains) {
            SmokeWard ward = new SmokeWard();
            ward.setRain(row[0]);
            ward.light(3, 3, row[1]);
            ward.pass(1);
            check.same("by " + row[1] + " in the rain " + row[0], ward.fire(3, 2), row[2]);
        }
    }

    private void fireTellsByWind() {
        for (int[] way : AROUND) {
            forCells((x, y) -> {
                SmokeWard ward = Made.with(w -> w.light(x, y, 3));
                ward.setWind(way[0], way[1], 1);
                ward.pass(1);
                forCells((otherX, otherY) -> {
                    boolean led = otherX == x + way[0] && otherY == y + way[1];
                    int due = otherX == x && otherY == y ? 3 : led ? 2 : 0;
                    check.same("from " + x + ", " + y + " at " + otherX + ", " + otherY, ward.fire(otherX, otherY), due);
                });
            });
        }
        int[][] rows = {{2, 1, 0}, {2, 4, 0}, {3, 0, 0}, {3, 1, 2}, {3, 2, 3}, {3, 3, 4}, {3, 4, 5}, {4, 4, 5}};
        for (int[] row : rows) {
            SmokeWard ward = new SmokeWard();
            ward.setWind(-1, 1, row[1]);
            ward.light(4, 2, row[0]);
            ward.pass(1);
            check.same("by " + row[0] + " in the wind " + row[1], ward.fire(3, 3), row[2]);
        }
    }

    private void greatestOfSeveral() {
        SmokeWard four = new SmokeWard();
        for (int[] way : NEXT) {
            four.light(3 + way[0], 3 + way[1], 9);
        }
        four.pass(1);
        check.same("of four times 1", four.fire(3, 3), 1);
        for (int[] way : NEXT) {
            SmokeWard ward = new SmokeWard();
            ward.setWind(1, 0, 2);
            ward.light(2, 3, 3);
            ward.light(3 + way[0], 3 + way[1], 9);
            ward.pass(1);
            check.same("of 1 and 3", ward.fire(3, 3), 3);
        }
    }

    private void windCarries() {
        int[][] rows = {{3, 4, 3, 0, 0}, {4, 0, 4, 0, 0}, {4, 1, 3, 1, 0}, {7, 1, 6, 1, 0}, {8, 1, 6, 2, 0},
            {16, 1, 12, 4, 0}, {16, 2, 9, 6, 1}, {16, 3, 7, 7, 2}, {16, 4, 6, 7, 3}};
        for (int[] row : rows) {
            for (int[] way : AROUND) {
                SmokeWard ward = Made.withSmoke(3, 3, row[0]);
                ward.setWind(way[0], way[1], row[1]);
                ward.pass(1);
                String what = row[0] + " by the wind " + row[1];
                check.same(what + ", stays", ward.smoke(3, 3), row[2]);
                check.same(what + ", one step", ward.smoke(3 + way[0], 3 + way[1]), row[3]);
                check.same(what + ", two steps", ward.smoke(3 + 2 * way[0], 3 + 2 * way[1]), row[4]);
            }
        }
    }

    private void smokeLeavesTheLand() {
        for (int[] way : AROUND) {
            forCells((x, y) -> {
                SmokeWard ward = Made.withSmoke(x, y, 4);
                ward.setWind(way[0], way[1], 1);
                ward.pass(1);
                boolean stays = isCell(x + way[0], y + way[1]);
                check.same("blown from " + x + ", " + y, ward.blown(), stays ? 0 : 1);
                check.same("left of it", ward.smoke(x, y), 3);
                check.same("in the land", sumOfSmoke(ward), stays ? 4 : 3);
            });
        }
    }

    private void smokeSettles() {
        int[][] rows = {{19, 0, 0}, {20, 0, 1}, {39, 0, 1}, {40, 0, 2}, {9, 1, 0}, {10, 1, 1}, {1, 9, 0}, {2, 9, 1},
            {3, 9, 1}, {4, 9, 2}, {6, 2, 0}, {7, 2, 1}, {2, 8, 0}, {3, 8, 1}, {0, 9, 0}};
        for (int[] row : rows) {
            SmokeWard ward = Made.withSmoke(7, 0, row[0]);
            ward.setRain(row[1]);
            ward.pass(1);
            check.same("settled of " + row[0] + " in the rain " + row[1], ward.settled(), row[2]);
            check.same("left of it", ward.smoke(7, 0), row[0] - row[2]);
        }
    }

    private void crews() {
        sentences.hold("Forecasts go by the steps 1 to 5 alone, with this wind and rain, from how things are.",
            this::forecastsGoByTheModel);
        sentences.hold("Crews. A line takes 2 hours, and 1 more for each 20 of the fuel, cut.", this::hoursOfLines);
        sentences.hold("A crew digs on also if another one was done there.", this::crewsDigOn);
    }

    /** A line in (4, 4), a crew that digs for 6 hours where it burns, wind and rain. */
    private static SmokeWard withWork() {
        SmokeWard ward = new SmokeWard();
        ward.digLine(4, 4, 1);
        ward.pass(2);
        ward.setFuel(3, 3, 99);
        ward.digLine(3, 3, 0);
        ward.light(3, 3, 7);
        ward.light(0, 0, 5);
        ward.setWind(1, 1, 2);
        ward.setRain(2);
        return ward;
    }

    private void forecastsGoByTheModel() {
        for (int hours = 1; hours <= 12; hours++) {
            int ahead = hours;
            SmokeWard told = withWork();
            told.addSensor(3, 3);
            told.addSensor(0, 0);
            told.read(0, 9999);
            told.read(1, 9999);
            SmokeWard done = withWork();
            done.pass(hours);
            forCells((x, y) -> check.same("in " + ahead + " at " + x + ", " + y, told.forecast(x, y, ahead), done.smoke(x, y)));
            check.same("the crew was done by then", done.hasLine(3, 3) ? 1 : 0, hours >= 6 ? 1 : 0);
            check.no("but not yet", told.hasLine(3, 3));
            check.same("the crew's hours", told.left(0), 6);
        }
    }

    private void hoursOfLines() {
        for (int fuel = 0; fuel <= 99; fuel++) {
            SmokeWard ward = new SmokeWard();
            ward.setFuel(6, 1, fuel);
            int due = fuel < 20 ? 2 : fuel < 40 ? 3 : fuel < 60 ? 4 : fuel < 80 ? 5 : 6;
            check.same("with the fuel " + fuel, ward.digLine(6, 1, 2), due);
            ward.pass(due - 1);
            check.no("an hour ahead", ward.hasLine(6, 1));
            ward.pass(1);
            check.yes("by then", ward.hasLine(6, 1));
        }
    }

    private void crewsDigOn() {
        SmokeWard ward = new SmokeWard();
        ward.digLine(1, 1, 0);
        ward.pass(1);
        ward.digLine(1, 1, 1);
        ward.setFuel(1, 1, 40);
        ward.digLine(1, 1, 2);
        ward.pass(1);
        check.yes("the first is done", ward.hasLine(1, 1));
        check.same("the second digs on", ward.left(1), 1);
        check.same("the third digs on", ward.left(2), 3);
        ward.pass(1);
        check.same("the second is done too", ward.left(1), 0);
        check.same("the third digs on", ward.left(2), 2);
        ward.pass(2);
        check.same("the third is done too", ward.left(2), 0);
        check.yes("the line is there", ward.hasLine(1, 1));
    }

    private void setFuel() {
        sentences.in("Promise 2: setFuel");
        arguments.cell((w, x, y) -> w.setFuel(x, y, 5));
        sentences.hold("Sets the fuel of a cell.", this::fuelIsSet);
        sentences.hold("- `fuel`: the fuel, 0 to 99",
            () -> arguments.range(0, 99, Check.ARGUMENT, SmokeWard::new, (w, fuel) -> w.setFuel(7, 5, fuel)));
        sentences.hold("Returns the fuel before.", this::fuelBefore);
        arguments.noCell((w, x, y) -> w.setFuel(x, y, 5));
        sentences.hold("Throws `IllegalArgumentException` if it is out of range", () -> {
            check.thrown("1 too little", Check.ARGUMENT, () -> new SmokeWard().setFuel(0, 0, -1));
            check.thrown("1 too much", Check.ARGUMENT, () -> new SmokeWard().setFuel(0, 0, 100));
        });
    }

    private void fuelIsSet() {
        int[] fuels = {0, 1, 98, 99};
        for (int fuel : fuels) {
            SmokeWard ward = Made.with(w -> w.setFuel(3, 4, fuel));
            forCells((x, y) -> check.same("fuel at " + x + ", " + y, ward.fuel(x, y), x == 3 && y == 4 ? fuel : 10));
        }
        SmokeWard burning = Made.with(w -> w.light(3, 4, 9));
        burning.setFuel(3, 4, 0);
        check.same("what burns there burns on", burning.fire(3, 4), 9);
    }

    private void fuelBefore() {
        SmokeWard ward = new SmokeWard();
        check.same("at first", ward.setFuel(0, 0, 99), 10);
        check.same("the greatest", ward.setFuel(0, 0, 0), 99);
        check.same("none", ward.setFuel(0, 0, 0), 0);
        ward.setFuel(0, 0, 7);
        ward.light(0, 0, 3);
        ward.pass(1);
        check.same("what the fire left", ward.setFuel(0, 0, 1), 4);
    }

    private void light() {
        sentences.in("Promise 3: light");
        arguments.cell((w, x, y) -> w.light(x, y, 5));
        sentences.hold("Lights a fire in a cell, if it is stronger than what burns there.", this::strongerFires);
        sentences.hold("- `fire`: how strong, 1 to 9",
            () -> arguments.range(1, 9, Check.ARGUMENT, SmokeWard::new, (w, fire) -> w.light(7, 5, fire)));
        sentences.hold("Returns whether it burns so now.", this::burnsSoNow);
        arguments.noCell((w, x, y) -> w.light(x, y, 5));
        sentences.hold("Throws `IllegalArgumentException` if it is out of range", () -> {
            check.thrown("1 too little", Check.ARGUMENT, () -> new SmokeWard().light(0, 0, 0));
            check.thrown("1 too much", Check.ARGUMENT, () -> new SmokeWard().light(0, 0, 10));
        });
        sentences.hold("Throws `UnsupportedOperationException` if the cell has no fuel, or a line", this::nothingToLight);
    }

    private void strongerFires() {
        for (int burning = 1; burning <= 9; burning++) {
            for (int fire = 1; fire <= 9; fire++) {
                SmokeWard ward = new SmokeWard();
                ward.light(2, 5, burning);
                ward.light(2, 5, fire);
                check.same(fire + " where " + burning + " burns", ward.fire(2, 5), Math.max(burning, fire));
                check.same("the next cell", ward.fire(3, 5), 0);
            }
        }
    }

    private void burnsSoNow() {
        for (int burning = 1; burning <= 9; burning++) {
            for (int fire = 1; fire <= 9; fire++) {
                SmokeWard ward = new SmokeWard();
                check.yes("where nothing burns", ward.light(2, 5, burning));
                boolean due = fire >= burning;
                check.same(fire + " where " + burning + " burns", ward.light(2, 5, fire) ? 1 : 0, due ? 1 : 0);
            }
        }
    }

    private void nothingToLight() {
        SmokeWard bare = Made.with(w -> w.setFuel(1, 1, 0));
        check.thrown("no fuel", Check.UNSUPPORTED, () -> bare.light(1, 1, 1));
        bare.setFuel(1, 1, 1);
        check.yes("fuel of 1", bare.light(1, 1, 1));
        SmokeWard burnt = Made.with(w -> w.light(1, 1, 5));
        burnt.pass(2);
        check.thrown("all fuel burnt", Check.UNSUPPORTED, () -> burnt.light(1, 1, 9));
        SmokeWard line = Made.with(w -> w.digLine(1, 1, 0));
        line.pass(1);
        check.yes("the line is not done", line.light(1, 1, 1));
        line.pass(1);
        check.thrown("a line", Check.UNSUPPORTED, () -> line.light(1, 1, 9));
        line.setFuel(1, 1, 99);
        check.thrown("a line with fuel", Check.UNSUPPORTED, () -> line.light(1, 1, 9));
        check.yes("next to the line", line.light(2, 1, 9));
    }

    private void setWind() {
        sentences.in("Promise 4: setWind");
        sentences.hold("Sets the wind.", this::windCarries);
        sentences.hold("- `dx`: -1, 0 or 1",
            () -> arguments.range(-1, 1, Check.ARGUMENT, SmokeWard::new, (w, dx) -> w.setWind(dx, 1, 4)));
        sentences.hold("- `dy`: -1, 0 or 1",
            () -> arguments.range(-1, 1, Check.ARGUMENT, SmokeWard::new, (w, dy) -> w.setWind(-1, dy, 4)));
        sentences.hold("- `strength`: 0 to 4, 0 if both are 0", this::windStrengths);
        sentences.hold("Returns the strength before.", this::strengthBefore);
        sentences.hold("Throws `IllegalArgumentException` if a number is out of range", this::windsOutOfRange);
    }

    private void windStrengths() {
        for (int[] way : AROUND) {
            arguments.range(0, 4, Check.ARGUMENT, SmokeWard::new, (w, strength) -> w.setWind(way[0], way[1], strength));
        }
        arguments.range(0, 0, Check.ARGUMENT, SmokeWard::new, (w, strength) -> w.setWind(0, 0, strength));
    }

    private void strengthBefore() {
        SmokeWard ward = new SmokeWard();
        check.same("at first", ward.setWind(1, 1, 4), 0);
        check.same("the greatest", ward.setWind(0, 0, 0), 4);
        check.same("none", ward.setWind(-1, 0, 1), 0);
        ward.pass(24);
        check.same("a day ago", ward.setWind(-1, 0, 2), 1);
    }

    private void windsOutOfRange() {
        int[][] winds = {{-2, 0, 1}, {2, 0, 1}, {0, -2, 1}, {0, 2, 1}, {-2, 0, 0}, {0, 2, 0}, {1, 0, -1}, {1, 0, 5},
            {0, 1, 5}, {0, 0, 1}, {0, 0, 4}, {0, 0, 5}, {0, 0, -1}};
        for (int[] wind : winds) {
            check.thrown(wind[0] + ", " + wind[1] + ", " + wind[2], Check.ARGUMENT,
                () -> new SmokeWard().setWind(wind[0], wind[1], wind[2]));
        }
    }

    private void setRain() {
        sentences.in("Promise 5: setRain");
        sentences.hold("Sets the rain.", this::smokeSettles);
        sentences.hold("- `rain`: 0 to 9",
            () -> arguments.range(0, 9, Check.ARGUMENT, SmokeWard::new, (w, rain) -> w.setRain(rain)));
        sentences.hold("Returns the rain before.", () -> {
            SmokeWard ward = new SmokeWard();
            check.same("at first", ward.setRain(9), 0);
            check.same("the greatest", ward.setRain(0), 9);
            check.same("none", ward.setRain(1), 0);
            ward.pass(24);
            check.same("a day ago", ward.setRain(2), 1);
        });
        sentences.hold("Throws `IllegalArgumentException` if it is out of range", () -> {
            check.thrown("1 too little", Check.ARGUMENT, () -> new SmokeWard().setRain(-1));
            check.thrown("1 too much", Check.ARGUMENT, () -> new SmokeWard().setRain(10));
        });
    }

    private void digLine() {
        sentences.in("Promise 6: digLine");
        arguments.cell((w, x, y) -> w.digLine(x, y, 1));
        sentences.hold("Lets a crew dig a line in a cell, in place of what it did.", this::inPlaceOfWhatItDid);
        sentences.hold("- `crew`: the crew, 0 to 2",
            () -> arguments.range(0, 2, Check.ARGUMENT, SmokeWard::new, (w, crew) -> w.digLine(7, 5, crew)));
        sentences.hold("Returns how many hours it takes.", this::hoursOfLines);
        arguments.noCell((w, x, y) -> w.digLine(x, y, 1));
        sentences.hold("Throws `IllegalArgumentException` if there is no such crew", () -> {
            check.thrown("crew -1", Check.ARGUMENT, () -> new SmokeWard().digLine(0, 0, -1));
            check.thrown("crew 3", Check.ARGUMENT, () -> new SmokeWard().digLine(0, 0, 3));
        });
        sentences.hold("Throws `UnsupportedOperationException` if there is a line, or the cell burns with more than 4",
            this::whereNoLineIsDug);
    }

    private void inPlaceOfWhatItDid() {
        SmokeWard ward = new SmokeWard();
        ward.digLine(1, 1, 0);
        ward.digLine(5, 5, 1);
        ward.pass(1);
        check.same("elsewhere, anew", ward.digLine(2, 2, 0), 2);
        check.same("left", ward.left(0), 2);
        check.same("the other crew's", ward.left(1), 1);
        ward.pass(1);
        check.no("what it did before", ward.hasLine(1, 1));
        check.no("not yet", ward.hasLine(2, 2));
        check.yes("the other crew's line", ward.hasLine(5, 5));
        check.same("at the same place, anew", ward.digLine(2, 2, 0), 2);
        ward.pass(1);
        check.no("an hour more", ward.hasLine(2, 2));
        ward.pass(1);
        check.yes("done", ward.hasLine(2, 2));
        check.no("what it did at first", ward.hasLine(1, 1));
        check.same("behind its work", ward.digLine(1, 1, 0), 2);
    }

    private void whereNoLineIsDug() {
        for (int fire = 1; fire <= 9; fire++) {
            int strength = fire;
            SmokeWard ward = Made.with(w -> w.light(4, 0, strength));
            check.thrown("where " + fire + " burns", fire > 4 ? Check.UNSUPPORTED : Check.NOTHING,
                () -> ward.digLine(4, 0, 0));
        }
        SmokeWard ward = Made.with(w -> w.digLine(4, 0, 0));
        ward.pass(2);
        check.thrown("a line, the same crew", Check.UNSUPPORTED, () -> ward.digLine(4, 0, 0));
        check.thrown("a line, another crew", Check.UNSUPPORTED, () -> ward.digLine(4, 0, 1));
        check.thrown("no line, without fuel", Check.NOTHING, () -> {
            ward.setFuel(5, 0, 0);
            ward.digLine(5, 0, 0);
        });
        SmokeWard grown = Made.with(w -> w.light(4, 0, 4));
        grown.digLine(4, 0, 0);
        grown.light(4, 0, 9);
        grown.setFuel(4, 0, 99);
        grown.pass(2);
        check.yes("grown since, and dug all the same", grown.hasLine(4, 0));
        check.same("and out", grown.fire(4, 0), 0);
    }

    private void looks() {
        sentences.in("Promise 18: fuel");
        arguments.cell((w, x, y) -> w.fuel(x, y));
        sentences.hold("Returns the fuel of a cell.", this::eachCellIsItsOwn);
        sentences.hold("Returns the fuel, 10 at first.", this::eachCellAtFirst);
        arguments.noCell((w, x, y) -> w.fuel(x, y));
        sentences.in("Promise 19: fire");
        arguments.cell((w, x, y) -> w.fire(x, y));
        sentences.hold("Returns how strong a cell burns.", this::strongerFires);
        sentences.hold("Returns the fire, 0 for none.", () -> {
            SmokeWard ward = new SmokeWard();
            check.same("none yet", ward.fire(7, 5), 0);
            ward.light(7, 5, 9);
            check.same("the strongest", ward.fire(7, 5), 9);
            ward.pass(2);
            check.same("none any more", ward.fire(7, 5), 0);
        });
        arguments.noCell((w, x, y) -> w.fire(x, y));
        sentences.in("Promise 20: smoke");
        arguments.cell((w, x, y) -> w.smoke(x, y));
        sentences.hold("Returns the smoke of a cell.", this::eachCellIsItsOwn);
        sentences.hold("Returns the smoke.", this::smokeSettles);
        arguments.noCell((w, x, y) -> w.smoke(x, y));
        sentences.in("Promise 21: hasLine");
        arguments.cell((w, x, y) -> w.hasLine(x, y));
        sentences.hold("Returns whether a cell has a line.", this::crewsDig);
        sentences.hold("Returns whether it has.", this::linesStay);
        arguments.noCell((w, x, y) -> w.hasLine(x, y));
    }

    private void linesStay() {
        SmokeWard ward = new SmokeWard();
        forCells((x, y) -> check.no("none yet", ward.hasLine(x, y)));
        ward.digLine(7, 5, 2);
        ward.pass(2);
        check.yes("dug", ward.hasLine(7, 5));
        ward.setFuel(7, 5, 99);
        ward.pass(24);
        check.yes("a day behind", ward.hasLine(7, 5));
    }

    private void left() {
        sentences.in("Promise 22: left");
        sentences.hold("Returns how many hours a crew still digs.", this::hoursLeft);
        sentences.hold("- `crew`: the crew, 0 to 2",
            () -> arguments.range(0, 2, Check.ARGUMENT, SmokeWard::new, (w, crew) -> w.left(crew)));
        sentences.hold("Returns the number of hours.", this::crewsDigOn);
        sentences.hold("Throws `IllegalArgumentException` if there is no such crew", () -> {
            check.thrown("crew -1", Check.ARGUMENT, () -> new SmokeWard().left(-1));
            check.thrown("crew 3", Check.ARGUMENT, () -> new SmokeWard().left(3));
        });
    }

    private void hoursLeft() {
        for (int crew = 0; crew < 3; crew++) {
            SmokeWard ward = new SmokeWard();
            check.same("none at first", ward.left(crew), 0);
            ward.setFuel(0, 0, 99);
            ward.digLine(0, 0, crew);
            for (int hours = 6; hours >= 0; hours--) {
                check.same("left to crew " + crew, ward.left(crew), hours);
                check.same("to another one", ward.left((crew + 1) % 3), 0);
                ward.pass(1);
            }
            check.same("still none", ward.left(crew), 0);
        }
    }

    /** More smoke each hour, until in the ninth hour the fuel ends. */
    private static SmokeWard withFire() {
        SmokeWard ward = new SmokeWard();
        ward.setFuel(2, 2, 36);
        ward.light(2, 2, 4);
        return ward;
    }

    private void forecast() {
        sentences.in("Promise 23: forecast");
        arguments.cell((w, x, y) -> w.forecast(x, y, 1));
        sentences.hold("Returns the smoke that a cell would have after some hours with this wind and rain, "
            + "by the model alone.", this::forecastsGoByTheModel);
        sentences.hold("- `hours`: how many hours ahead, 1 to 12",
            () -> arguments.range(1, 12, Check.ARGUMENT, LandEdges::withFire, (w, hours) -> w.forecast(2, 2, hours)));
        sentences.hold("Returns the smoke.", this::forecastsComeTrue);
        arguments.noCell((w, x, y) -> w.forecast(x, y, 1));
        sentences.hold("Throws `IllegalArgumentException` if the number is out of range", () -> {
            check.thrown("0 hours", Check.ARGUMENT, () -> withFire().forecast(2, 2, 0));
            check.thrown("13 hours", Check.ARGUMENT, () -> withFire().forecast(2, 2, 13));
        });
    }

    private void forecastsComeTrue() {
        for (int hours = 1; hours <= 12; hours++) {
            int ahead = withFire().forecast(2, 2, hours);
            SmokeWard ward = withFire();
            ward.pass(hours);
            check.same("in " + hours, ahead, ward.smoke(2, 2));
        }
        check.same("where no smoke comes", withFire().forecast(7, 5, 12), 0);
        SmokeWard late = Made.late();
        check.yes("behind the last hour too", late.forecast(2, 2, 12) > 0);
        check.same("and nothing has passed", late.hour(), 999);
        check.unchanged("forecasts", Made::busy, w -> w.forecast(2, 2, 12));
    }

    private void worst() {
        sentences.in("Promise 24: worst");
        arguments.cell((w, x, y) -> w.worst(x, y, 1));
        sentences.hold("Returns the greatest of these smokes, of each hour up to then.", this::worstUpToThen);
        sentences.hold("- `hours`: how many hours ahead, 1 to 12",
            () -> arguments.range(1, 12, Check.ARGUMENT, LandEdges::withFire, (w, hours) -> w.worst(2, 2, hours)));
        sentences.hold("Returns the smoke.", this::worstIsOfHoursToCome);
        arguments.noCell((w, x, y) -> w.worst(x, y, 1));
        sentences.hold("Throws `IllegalArgumentException` if the number is out of range", () -> {
            check.thrown("0 hours", Check.ARGUMENT, () -> withFire().worst(2, 2, 0));
            check.thrown("13 hours", Check.ARGUMENT, () -> withFire().worst(2, 2, 13));
        });
    }

    private void worstUpToThen() {
        forCells((x, y) -> {
            SmokeWard ward = Made.with(w -> w.setFuel(x, y, 36));
            ward.light(x, y, 4);
            int greatest = 0;
            for (int hours = 1; hours <= 12; hours++) {
                greatest = Math.max(greatest, ward.forecast(x, y, hours));
                check.same("up to " + hours, ward.worst(x, y, hours), greatest);
            }
            check.yes("it was ahead of the last hour", greatest > ward.forecast(x, y, 12));
        });
        check.unchanged("forecasts", Made::busy, w -> w.worst(2, 2, 12));
    }

    private void worstIsOfHoursToCome() {
        SmokeWard ward = Made.withSmoke(2, 2, 100);
        check.same("100 less 5, not 100", ward.worst(2, 2, 1), 95);
        check.same("the first hour's", ward.worst(2, 2, 12), 95);
        check.same("where no smoke comes", ward.worst(3, 2, 12), 0);
        check.yes("behind the last hour", Made.late().worst(2, 2, 12) > 0);
    }
}
