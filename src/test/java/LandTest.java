/** Promises 2 to 6 and 18 to 24: the land, its model and its forecasts. */
final class LandTest {
    private static final Check CHECK = new Check();

    private interface CellCall {
        void at(int x, int y);
    }

    public static void main(String[] args) {
        cellsThatAreNot();
        fuelIsSet();
        firesAreLit();
        windAndRainAreSet();
        linesAreDug();
        crewsChangeTheirWork();
        firesBurn();
        rainWeakens();
        firesSpreadToTheFour();
        firesSpreadByWind();
        firesDoNotSpread();
        windCarries();
        smokeSettles();
        cornersAreCellsToo();
        lastFuelBurns();
        forecasts();
        forecastsGoByModelAlone();
        forecastsKnowLines();
        CHECK.end();
    }

    private static void cellsThatAreNot() {
        SmokeWard ward = new SmokeWard();
        noSuchCell(ward, "setFuel", (x, y) -> ward.setFuel(x, y, 100));
        noSuchCell(ward, "light", (x, y) -> ward.light(x, y, 0));
        noSuchCell(ward, "digLine", (x, y) -> ward.digLine(x, y, 3));
        noSuchCell(ward, "fuel", (x, y) -> ward.fuel(x, y));
        noSuchCell(ward, "fire", (x, y) -> ward.fire(x, y));
        noSuchCell(ward, "smoke", (x, y) -> ward.smoke(x, y));
        noSuchCell(ward, "hasLine", (x, y) -> ward.hasLine(x, y));
        noSuchCell(ward, "forecast", (x, y) -> ward.forecast(x, y, 0));
        noSuchCell(ward, "worst", (x, y) -> ward.worst(x, y, 13));
    }

    private static void noSuchCell(SmokeWard ward, String name, CellCall call) {
        int[][] cells = {{-1, 0}, {8, 0}, {0, -1}, {0, 6}, {8, 5}, {-1, 1}, {7, 6},
            {Integer.MAX_VALUE, 0}, {0, Integer.MIN_VALUE}};
        for (int[] cell : cells) {
            CHECK.thrown(name + " at " + cell[0] + ", " + cell[1], Check.INDEX, () -> call.at(cell[0], cell[1]));
        }
    }

    private static void fuelIsSet() {
        SmokeWard ward = new SmokeWard();
        CHECK.same("setFuel(7, 5, 99)", ward.setFuel(7, 5, 99), 10);
        CHECK.same("setFuel(7, 5, 0)", ward.setFuel(7, 5, 0), 99);
        CHECK.same("setFuel(7, 5, 1)", ward.setFuel(7, 5, 1), 0);
        CHECK.same("fuel(7, 5)", ward.fuel(7, 5), 1);
        CHECK.same("fuel(5, 5)", ward.fuel(5, 5), 10);
        CHECK.thrown("setFuel -1", Check.ARGUMENT, () -> ward.setFuel(0, 0, -1));
        CHECK.thrown("setFuel 100", Check.ARGUMENT, () -> ward.setFuel(0, 0, 100));
    }

    private static void firesAreLit() {
        SmokeWard ward = new SmokeWard();
        CHECK.yes("light(1, 2, 1)", ward.light(1, 2, 1));
        CHECK.yes("light stronger", ward.light(1, 2, 5));
        CHECK.same("fire", ward.fire(1, 2), 5);
        CHECK.no("light weaker", ward.light(1, 2, 4));
        CHECK.same("fire after weaker", ward.fire(1, 2), 5);
        CHECK.yes("light as strong: it burns so", ward.light(1, 2, 5));
        CHECK.yes("light(1, 2, 9)", ward.light(1, 2, 9));
        CHECK.same("fire(2, 1)", ward.fire(2, 1), 0);
        ward.setFuel(3, 3, 0);
        ward.digLine(4, 4, 0);
        ward.pass(2);
        CHECK.thrown("light 0", Check.ARGUMENT, () -> ward.light(3, 3, 0));
        CHECK.thrown("light 10", Check.ARGUMENT, () -> ward.light(4, 4, 10));
        CHECK.thrown("light without fuel", Check.UNSUPPORTED, () -> ward.light(3, 3, 1));
        CHECK.thrown("light on a line", Check.UNSUPPORTED, () -> ward.light(4, 4, 9));
    }

    private static void windAndRainAreSet() {
        SmokeWard ward = new SmokeWard();
        CHECK.same("setWind(1, -1, 4)", ward.setWind(1, -1, 4), 0);
        CHECK.same("setWind(-1, 1, 0)", ward.setWind(-1, 1, 0), 4);
        CHECK.same("setWind(0, 1, 3)", ward.setWind(0, 1, 3), 0);
        CHECK.same("setWind(0, 0, 0)", ward.setWind(0, 0, 0), 3);
        CHECK.thrown("wind dx 2", Check.ARGUMENT, () -> ward.setWind(2, 0, 1));
        CHECK.thrown("wind dx -2", Check.ARGUMENT, () -> ward.setWind(-2, 0, 1));
        CHECK.thrown("wind dy 2", Check.ARGUMENT, () -> ward.setWind(0, 2, 1));
        CHECK.thrown("wind dy -2", Check.ARGUMENT, () -> ward.setWind(0, -2, 1));
        CHECK.thrown("wind 5", Check.ARGUMENT, () -> ward.setWind(1, 0, 5));
        CHECK.thrown("wind -1", Check.ARGUMENT, () -> ward.setWind(1, 0, -1));
        CHECK.thrown("wind 1 to nowhere", Check.ARGUMENT, () -> ward.setWind(0, 0, 1));
        CHECK.same("setRain(9)", ward.setRain(9), 0);
        CHECK.same("setRain(4)", ward.setRain(4), 9);
        CHECK.thrown("rain 10", Check.ARGUMENT, () -> ward.setRain(10));
        CHECK.thrown("rain -1", Check.ARGUMENT, () -> ward.setRain(-1));
        CHECK.same("setRain(0)", ward.setRain(0), 4);
    }

    private static void linesAreDug() {
        SmokeWard ward = new SmokeWard();
        ward.setFuel(0, 0, 19);
        CHECK.same("digLine fuel 19", ward.digLine(0, 0, 0), 2);
        ward.setFuel(1, 0, 20);
        CHECK.same("digLine fuel 20", ward.digLine(1, 0, 1), 3);
        ward.setFuel(2, 0, 99);
        ward.light(2, 0, 4);
        CHECK.same("digLine fuel 99, fire 4", ward.digLine(2, 0, 2), 6);
        ward.light(3, 5, 5);
        CHECK.thrown("digLine at fire 5", Check.UNSUPPORTED, () -> ward.digLine(3, 5, 0));
        CHECK.thrown("digLine crew 3", Check.ARGUMENT, () -> ward.digLine(3, 5, 3));
        CHECK.thrown("digLine crew -1", Check.ARGUMENT, () -> ward.digLine(3, 5, -1));
        CHECK.thrown("left(3)", Check.ARGUMENT, () -> ward.left(3));
        CHECK.thrown("left(-1)", Check.ARGUMENT, () -> ward.left(-1));
        ward.pass(1);
        CHECK.same("left(0)", ward.left(0), 1);
        CHECK.no("hasLine too early", ward.hasLine(0, 0));
        ward.pass(1);
        CHECK.same("left(0) done", ward.left(0), 0);
        CHECK.yes("hasLine(0, 0)", ward.hasLine(0, 0));
        CHECK.no("hasLine(1, 0) too early", ward.hasLine(1, 0));
        CHECK.thrown("digLine where one is", Check.UNSUPPORTED, () -> ward.digLine(0, 0, 0));
        CHECK.same("left(2)", ward.left(2), 4);
        ward.pass(4);
        CHECK.yes("hasLine(2, 0)", ward.hasLine(2, 0));
        CHECK.same("fire on the line", ward.fire(2, 0), 0);
        CHECK.same("it burnt in 5 hours only", ward.fuel(2, 0), 79);
    }

    private static void crewsChangeTheirWork() {
        SmokeWard ward = new SmokeWard();
        ward.digLine(0, 0, 0);
        ward.pass(1);
        ward.digLine(1, 1, 0);
        CHECK.same("begun anew elsewhere", ward.left(0), 2);
        ward.pass(1);
        CHECK.same("begun anew at the same place", ward.digLine(1, 1, 0), 2);
        ward.digLine(1, 1, 1);
        ward.pass(1);
        ward.digLine(1, 1, 1);
        ward.pass(1);
        CHECK.yes("one crew is done", ward.hasLine(1, 1));
        CHECK.no("what was left is no line", ward.hasLine(0, 0));
        CHECK.same("the other digs on", ward.left(1), 1);
        ward.pass(2);
        CHECK.same("the other is done", ward.left(1), 0);
        CHECK.yes("there is a line still", ward.hasLine(1, 1));
    }

    private static void firesBurn() {
        SmokeWard ward = new SmokeWard();
        ward.light(2, 2, 4);
        ward.pass(1);
        CHECK.same("fuel", ward.fuel(2, 2), 6);
        CHECK.same("fire", ward.fire(2, 2), 4);
        CHECK.same("smoke 40 less 2", ward.smoke(2, 2), 38);
        ward.pass(2);
        CHECK.same("fuel is gone", ward.fuel(2, 2), 0);
        CHECK.same("fire is out", ward.fire(2, 2), 0);
        CHECK.same("made by 10 of fuel", ward.made(), 100);
        SmokeWard bare = new SmokeWard();
        bare.light(0, 0, 9);
        bare.setFuel(0, 0, 0);
        CHECK.same("it burns until the next hour", bare.fire(0, 0), 9);
        bare.pass(1);
        CHECK.same("out without fuel", bare.fire(0, 0), 0);
        CHECK.same("nothing made", bare.made(), 0);
        CHECK.same("nobody told", bare.fire(1, 0), 0);
    }

    private static void rainWeakens() {
        SmokeWard ward = new SmokeWard();
        ward.light(0, 0, 4);
        ward.light(7, 5, 2);
        ward.setFuel(0, 0, 50);
        ward.setRain(2);
        ward.pass(1);
        CHECK.same("rain 2", ward.fire(0, 0), 4);
        ward.setRain(5);
        ward.pass(1);
        CHECK.same("rain 5", ward.fire(0, 0), 3);
        CHECK.same("rain 5, the weak", ward.fire(7, 5), 1);
        ward.setRain(9);
        ward.pass(1);
        CHECK.same("rain 9", ward.fire(0, 0), 0);
        CHECK.same("rain 9, not less than none", ward.fire(7, 5), 0);
        CHECK.same("burnt as strong as it was", ward.fuel(0, 0), 39);
        CHECK.same("fuel is left", ward.fuel(7, 5), 5);
    }

    private static void firesSpreadToTheFour() {
        SmokeWard ward = new SmokeWard();
        ward.light(3, 3, 5);
        ward.light(6, 1, 4);
        ward.light(4, 3, 2);
        ward.pass(1);
        int[][] next = {{2, 3}, {3, 2}, {3, 4}};
        for (int[] cell : next) {
            CHECK.same("fire next to it", ward.fire(cell[0], cell[1]), 1);
            CHECK.same("not burnt yet", ward.fuel(cell[0], cell[1]), 10);
        }
        CHECK.same("it burns more already", ward.fire(4, 3), 2);
        CHECK.same("not over a corner", ward.fire(2, 2), 0);
        CHECK.same("not two at once", ward.fire(1, 3), 0);
        CHECK.same("not by 4", ward.fire(5, 1), 0);
        SmokeWard two = new SmokeWard();
        two.light(2, 2, 9);
        two.light(4, 2, 9);
        two.pass(1);
        CHECK.same("of two the greatest, not the sum", two.fire(3, 2), 1);
        SmokeWard corner = new SmokeWard();
        corner.light(7, 1, 9);
        corner.pass(1);
        CHECK.same("not over the edge", corner.fire(0, 2), 0);
        CHECK.same("not over the other edge", corner.fire(0, 1), 0);
    }

    private static void firesSpreadByWind() {
        SmokeWard ward = new SmokeWard();
        ward.setWind(1, 1, 4);
        ward.light(1, 1, 3);
        ward.light(4, 1, 2);
        ward.light(5, 3, 5);
        ward.pass(1);
        CHECK.same("by wind, over the corner", ward.fire(2, 2), 5);
        CHECK.same("not next to 3", ward.fire(2, 1), 0);
        CHECK.same("not by 2", ward.fire(5, 2), 1);
        CHECK.same("not against the wind", ward.fire(0, 0), 0);
        CHECK.same("by wind from 5", ward.fire(6, 4), 5);
        SmokeWard both = new SmokeWard();
        both.setWind(-1, 0, 1);
        both.light(4, 4, 6);
        both.pass(1);
        CHECK.same("greater by wind", both.fire(3, 4), 2);
        CHECK.same("1 elsewhere", both.fire(5, 4), 1);
        SmokeWard still = new SmokeWard();
        still.setWind(1, 0, 0);
        still.light(1, 1, 4);
        still.pass(1);
        CHECK.same("no strength, no way for fire", still.fire(2, 1), 0);
        CHECK.same("no strength, no way for smoke", still.smoke(1, 1), 38);
    }

    private static void firesDoNotSpread() {
        SmokeWard ward = new SmokeWard();
        ward.setFuel(1, 2, 0);
        ward.digLine(2, 1, 0);
        ward.pass(2);
        ward.setFuel(2, 2, 50);
        ward.light(2, 2, 9);
        ward.setFuel(6, 4, 9);
        ward.light(6, 4, 9);
        ward.pass(1);
        CHECK.same("no fuel", ward.fire(1, 2), 0);
        CHECK.same("a line", ward.fire(2, 1), 0);
        CHECK.same("fuel", ward.fire(3, 2), 1);
        CHECK.same("burnt out ahead of the step", ward.fire(5, 4), 0);
        SmokeWard wet = new SmokeWard();
        wet.setRain(3);
        wet.light(2, 2, 5);
        wet.pass(1);
        CHECK.same("too weak ahead of the step", wet.fire(2, 3), 0);
        SmokeWard late = new SmokeWard();
        late.digLine(3, 2, 0);
        late.pass(1);
        late.light(2, 2, 5);
        late.pass(1);
        CHECK.same("the line was done ahead of it", late.fire(3, 2), 0);
    }

    private static void windCarries() {
        SmokeWard ward = new SmokeWard();
        ward.setFuel(2, 2, 30);
        ward.light(2, 2, 6);
        ward.setWind(1, 0, 2);
        ward.pass(1);
        CHECK.same("60 less 15 less 11, less 1", ward.smoke(2, 2), 33);
        CHECK.same("15 less 3 and 11, less 1", ward.smoke(3, 2), 22);
        CHECK.same("3", ward.smoke(4, 2), 3);
        CHECK.same("settled", ward.settled(), 2);
        CHECK.same("none blown", ward.blown(), 0);
        SmokeWard edge = new SmokeWard();
        edge.light(0, 5, 9);
        edge.setWind(-1, 1, 1);
        edge.pass(1);
        CHECK.same("90 less 22, less 3", edge.smoke(0, 5), 65);
        CHECK.same("22 blown", edge.blown(), 22);
        CHECK.same("not over the edge", edge.smoke(7, 5), 0);
        CHECK.yes("kept", edge.isKept());
        SmokeWard corner = new SmokeWard();
        corner.light(7, 2, 1);
        corner.setWind(1, 0, 1);
        corner.pass(1);
        CHECK.same("10 less 2", corner.smoke(7, 2), 8);
        CHECK.same("not in the next row", corner.smoke(0, 3), 0);
        CHECK.same("2 blown", corner.blown(), 2);
    }

    private static void smokeSettles() {
        SmokeWard ward = new SmokeWard();
        ward.light(4, 4, 2);
        ward.setFuel(4, 4, 3);
        ward.pass(1);
        CHECK.same("1 of 20", ward.smoke(4, 4), 19);
        ward.pass(1);
        CHECK.same("29 less 1", ward.smoke(4, 4), 28);
        ward.setRain(9);
        ward.pass(1);
        CHECK.same("10 of 20", ward.smoke(4, 4), 14);
        ward.pass(10);
        CHECK.same("cut, so 1 stays", ward.smoke(4, 4), 1);
        CHECK.same("settled", ward.settled(), 29);
        CHECK.yes("kept", ward.isKept());
    }

    private static void cornersAreCellsToo() {
        int[][] corners = {{0, 0, 1, 1}, {7, 0, -1, 1}, {0, 5, 1, -1}, {7, 5, -1, -1}};
        for (int[] c : corners) {
            SmokeWard ward = new SmokeWard();
            ward.light(c[0], c[1], 8);
            ward.setWind(c[2], c[3], 1);
            ward.pass(1);
            CHECK.same("80 less 20, less 3", ward.smoke(c[0], c[1]), 57);
            CHECK.same("20 less 1", ward.smoke(c[0] + c[2], c[1] + c[3]), 19);
            CHECK.same("by wind from the corner", ward.fire(c[0] + c[2], c[1] + c[3]), 2);
            CHECK.same("in x from the corner", ward.fire(c[0] + c[2], c[1]), 1);
            CHECK.same("in y from the corner", ward.fire(c[0], c[1] + c[3]), 1);
            CHECK.same("forecast of the corner", ward.forecast(c[0], c[1], 1), ward.worst(c[0], c[1], 1));
            SmokeWard other = new SmokeWard();
            other.light(c[0] + c[2], c[1], 8);
            other.light(c[0], c[1] + 2 * c[3], 8);
            other.pass(1);
            CHECK.same("in x into the corner", other.fire(c[0], c[1]), 1);
            CHECK.same("in y into the edge", other.fire(c[0], c[1] + c[3]), 1);
            SmokeWard back = new SmokeWard();
            back.light(c[0] + c[2], c[1] + c[3], 4);
            back.setWind(-c[2], -c[3], 4);
            back.pass(1);
            CHECK.same("by wind into the corner", back.fire(c[0], c[1]), 5);
            CHECK.yes("smoke into the corner", back.smoke(c[0], c[1]) > 0);
            back.setWind(0, 0, 0);
            back.setRain(9);
            int ahead = back.worst(c[0], c[1], 1);
            back.pass(1);
            CHECK.same("as forecast", back.smoke(c[0], c[1]), ahead);
        }
    }

    private static void lastFuelBurns() {
        SmokeWard ward = new SmokeWard();
        ward.setFuel(3, 2, 1);
        ward.light(2, 2, 5);
        ward.pass(1);
        CHECK.same("fuel of 1 burns", ward.fire(3, 2), 1);
        ward.pass(1);
        CHECK.same("and is out", ward.fire(3, 2), 0);
        CHECK.same("and makes 10", ward.smoke(3, 2), 10);
    }

    private static void forecastsKnowLines() {
        SmokeWard ward = new SmokeWard();
        ward.digLine(0, 0, 0);
        ward.digLine(3, 2, 1);
        ward.pass(2);
        ward.light(1, 0, 9);
        ward.light(2, 2, 9);
        CHECK.same("no fire comes to the corner", ward.forecast(0, 0, 3), 0);
        CHECK.same("nor to the line", ward.forecast(3, 2, 3), 0);
        CHECK.same("but to others: 20 less 1", ward.forecast(1, 2, 3), 19);
        CHECK.same("and from these no further", ward.worst(0, 2, 12), 0);
    }

    private static void forecasts() {
        SmokeWard ward = new SmokeWard();
        ward.light(2, 2, 9);
        ward.pass(1);
        CHECK.same("smoke", ward.smoke(2, 2), 86);
        CHECK.same("forecast 1", ward.forecast(2, 2, 1), 92);
        CHECK.same("forecast 2", ward.forecast(2, 2, 2), 88);
        CHECK.same("worst 1", ward.worst(2, 2, 1), 92);
        CHECK.same("worst 2", ward.worst(2, 2, 2), 92);
        CHECK.same("forecast elsewhere", ward.forecast(7, 5, 12), 0);
        CHECK.same("worst elsewhere", ward.worst(7, 5, 12), 0);
        CHECK.thrown("forecast 0", Check.ARGUMENT, () -> ward.forecast(0, 0, 0));
        CHECK.thrown("forecast 13", Check.ARGUMENT, () -> ward.forecast(0, 0, 13));
        CHECK.thrown("worst 0", Check.ARGUMENT, () -> ward.worst(0, 0, 0));
        CHECK.thrown("worst 13", Check.ARGUMENT, () -> ward.worst(0, 0, 13));
        int twelve = ward.forecast(2, 2, 12);
        ward.pass(1);
        CHECK.same("as forecast", ward.smoke(2, 2), 92);
        CHECK.same("worst is of hours to come", ward.worst(2, 2, 12), 88);
        ward.pass(11);
        CHECK.same("as forecast for 12", ward.smoke(2, 2), twelve);
    }

    private static void forecastsGoByModelAlone() {
        SmokeWard ward = new SmokeWard();
        ward.addSensor(1, 1);
        ward.read(0, 900);
        ward.light(1, 1, 3);
        ward.digLine(1, 1, 0);
        CHECK.same("without the sensor", ward.forecast(1, 1, 1), 29);
        CHECK.same("with the crew", ward.forecast(1, 1, 2), 28);
        CHECK.same("worst of both", ward.worst(1, 1, 2), 29);
        CHECK.same("the crew still digs", ward.left(0), 2);
        CHECK.same("nothing made", ward.made(), 0);
        ward.setWind(0, 1, 1);
        CHECK.same("with this wind", ward.forecast(1, 2, 1), 7);
        ward.setRain(9);
        CHECK.same("with this rain", ward.forecast(1, 2, 1), 4);
    }
}
