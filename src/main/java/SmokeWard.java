import java.util.Arrays;

/** A service for the smoke of wildfires, as ../shared/DOC.md promises it. */
public final class SmokeWard {
    private static final int WIDTH = 8;
    private static final int HEIGHT = 6;
    private static final int CELLS = 48;
    private static final int FIRST_FUEL = 10;
    private static final int MAX_FUEL = 99;
    private static final int MAX_FIRE = 9;
    private static final int MAX_WIND = 4;
    private static final int MAX_RAIN = 9;
    private static final int SMOKE_OF_FUEL = 10;
    private static final int TELLS_NEIGHBOURS = 5;
    private static final int TELLS_BY_WIND = 3;
    private static final int CREWS = 3;
    private static final int MAX_FIRE_TO_DIG = 4;
    private static final int LINE_HOURS = 2;
    private static final int FUEL_OF_LINE_HOUR = 20;

    private static final int MAX_SENSORS = 10;
    private static final int MAX_READING = 9999;
    private static final int SENSOR_REACH = 2;
    private static final int MIN_NEIGHBOURS = 2;
    private static final int NO_MEAN = -1;
    private static final int ALWAYS_AGREES = 20;
    private static final int FIRST_TRUST = 50;
    private static final int MAX_TRUST = 100;
    private static final int TRUST_WON = 10;
    private static final int TRUST_LOST = 20;
    private static final int TRUST_TAKEN_BACK = 30;
    private static final int DOUBTS_TO_LEAVE_OUT = 2;
    private static final int AGREEMENTS_TO_TAKE_BACK = 3;
    private static final int UNJUDGED = 0;
    private static final int AGREES = 1;
    private static final int DOUBTED = 2;

    private static final int MAX_SUBSCRIBERS = 12;
    private static final int MAX_SCHOOLS = 6;
    private static final int MIN_BOUND = 20;
    private static final int MAX_BOUND = 9999;
    private static final int OVER_BELOW_BOUND = 10;
    private static final int FIRST_WARNINGS = 32;

    private static final int DAY = 24;
    private static final int MAX_HOUR = 999;
    private static final int MAX_AHEAD = 12;
    private static final int MAX_ACTS = 512;

    private static final int SET_FUEL = 1;
    private static final int LIGHT = 2;
    private static final int SET_WIND = 3;
    private static final int SET_RAIN = 4;
    private static final int DIG_LINE = 5;
    private static final int ADD_SENSOR = 6;
    private static final int READ = 7;
    private static final int SUBSCRIBE = 8;
    private static final int ADD_SCHOOL = 9;
    private static final int PASS = 10;

    private final World now = new World();
    // Kept from one isSame to the next: it began new and takes each act once, so no act is redone twice.
    private final World again = new World();
    private final Act[] acts = new Act[MAX_ACTS];
    private int actCount = 0;
    private int redone = 0;

    public SmokeWard() {
    }

    // ---- the land

    public int setFuel(int x, int y, int fuel) throws IndexOutOfBoundsException, IllegalArgumentException {
        int place = placeOf(x, y);
        checkRange(fuel, 0, MAX_FUEL);
        return now.perform(noted(SET_FUEL, place, fuel, 0, 0));
    }

    public boolean light(int x, int y, int fire)
            throws IndexOutOfBoundsException, IllegalArgumentException, UnsupportedOperationException {
        int place = placeOf(x, y);
        checkRange(fire, 1, MAX_FIRE);
        if (now.land.fuel[place] == 0 || now.land.line[place]) {
            throw new UnsupportedOperationException("nothing can burn in this cell");
        }
        return now.perform(noted(LIGHT, place, fire, 0, 0)) == 1;
    }

    public int setWind(int dx, int dy, int strength) throws IllegalArgumentException {
        checkRange(dx, -1, 1);
        checkRange(dy, -1, 1);
        checkRange(strength, 0, dx == 0 && dy == 0 ? 0 : MAX_WIND);
        return now.perform(noted(SET_WIND, dx, dy, strength, 0));
    }

    public int setRain(int rain) throws IllegalArgumentException {
        checkRange(rain, 0, MAX_RAIN);
        return now.perform(noted(SET_RAIN, rain, 0, 0, 0));
    }

    public int digLine(int x, int y, int crew)
            throws IndexOutOfBoundsException, IllegalArgumentException, UnsupportedOperationException {
        int place = placeOf(x, y);
        checkRange(crew, 0, CREWS - 1);
        if (now.land.line[place] || now.land.fire[place] > MAX_FIRE_TO_DIG) {
            throw new UnsupportedOperationException("no line can be dug in this cell");
        }
        return now.perform(noted(DIG_LINE, place, crew, 0, 0));
    }

    // ---- sensors

    public int addSensor(int x, int y) throws IndexOutOfBoundsException, IllegalStateException {
        int place = placeOf(x, y);
        checkRoom(now.sensors.count, MAX_SENSORS);
        return now.perform(noted(ADD_SENSOR, place, 0, 0, 0));
    }

    public int read(int sensor, int value) throws IndexOutOfBoundsException, IllegalArgumentException {
        checkNumber(sensor, now.sensors.count);
        checkRange(value, 0, MAX_READING);
        return now.perform(noted(READ, sensor, value, 0, 0));
    }

    public int trust(int sensor) throws IndexOutOfBoundsException {
        checkNumber(sensor, now.sensors.count);
        return now.sensors.trusts[sensor];
    }

    public char stateOf(int sensor) throws IndexOutOfBoundsException {
        checkNumber(sensor, now.sensors.count);
        return now.sensors.sign(sensor);
    }

    public int judged(int sensor) throws IndexOutOfBoundsException, UnsupportedOperationException {
        checkNumber(sensor, now.sensors.count);
        int mean = now.sensors.meanAround(sensor);
        if (mean == NO_MEAN) {
            throw new UnsupportedOperationException("too few have read");
        }
        return mean;
    }

    // ---- warnings

    public int subscribe(int x, int y, int bound, int from, int till)
            throws IndexOutOfBoundsException, IllegalArgumentException, IllegalStateException {
        int place = placeOf(x, y);
        checkRange(bound, MIN_BOUND, MAX_BOUND);
        checkRange(from, 0, DAY - 1);
        checkRange(till, 0, DAY - 1);
        checkRoom(now.subscribers.count, MAX_SUBSCRIBERS);
        return now.perform(noted(SUBSCRIBE, place, bound, from, till));
    }

    public int addSchool(int x, int y, int bound)
            throws IndexOutOfBoundsException, IllegalArgumentException, IllegalStateException {
        int place = placeOf(x, y);
        checkRange(bound, MIN_BOUND, MAX_BOUND);
        checkRoom(now.schools.count, MAX_SCHOOLS);
        return now.perform(noted(ADD_SCHOOL, place, bound, 0, 0));
    }

    public boolean isOpen(int school) throws IndexOutOfBoundsException {
        checkNumber(school, now.schools.count);
        return now.schools.open[school];
    }

    public boolean isWarned(int subscriber) throws IndexOutOfBoundsException {
        checkNumber(subscriber, now.subscribers.count);
        return now.subscribers.warned[subscriber];
    }

    // ---- hours

    public int pass(int hours) throws IllegalArgumentException, IllegalStateException {
        checkRange(hours, 1, DAY);
        if (now.hour + hours > MAX_HOUR) {
            throw new IllegalStateException("no hour is left behind the last one");
        }
        return now.perform(noted(PASS, hours, 0, 0, 0));
    }

    public int hour() {
        return now.hour;
    }

    // ---- what there is

    public int fuel(int x, int y) throws IndexOutOfBoundsException {
        return now.land.fuel[placeOf(x, y)];
    }

    public int fire(int x, int y) throws IndexOutOfBoundsException {
        return now.land.fire[placeOf(x, y)];
    }

    public int smoke(int x, int y) throws IndexOutOfBoundsException {
        return now.land.smoke[placeOf(x, y)];
    }

    public boolean hasLine(int x, int y) throws IndexOutOfBoundsException {
        return now.land.line[placeOf(x, y)];
    }

    public int left(int crew) throws IllegalArgumentException {
        checkRange(crew, 0, CREWS - 1);
        return now.land.crewHours[crew];
    }

    public int forecast(int x, int y, int hours) throws IndexOutOfBoundsException, IllegalArgumentException {
        int place = placeOf(x, y);
        checkRange(hours, 1, MAX_AHEAD);
        now.outlook.look(now.land, hours);
        return now.outlook.ahead.smoke[place];
    }

    public int worst(int x, int y, int hours) throws IndexOutOfBoundsException, IllegalArgumentException {
        int place = placeOf(x, y);
        checkRange(hours, 1, MAX_AHEAD);
        now.outlook.look(now.land, hours);
        return now.outlook.peaks[place];
    }

    // ---- records

    public int warnings() {
        return now.subscribers.sent;
    }

    public int warnedAt(int warning) throws IndexOutOfBoundsException {
        checkNumber(warning, now.subscribers.sent);
        return now.subscribers.sentAt[warning];
    }

    public int warnedWhom(int warning) throws IndexOutOfBoundsException {
        checkNumber(warning, now.subscribers.sent);
        return now.subscribers.sentTo[warning];
    }

    public int warnedBy(int warning) throws IndexOutOfBoundsException {
        checkNumber(warning, now.subscribers.sent);
        return now.subscribers.sentBy[warning];
    }

    public int closings() {
        return now.schools.closed;
    }

    public long made() {
        return now.land.smokeMade;
    }

    public long blown() {
        return now.land.smokeBlown;
    }

    public long settled() {
        return now.land.smokeSettled;
    }

    public long mended() {
        return now.sensors.smokeMended;
    }

    public float trustShare() throws ArithmeticException {
        if (now.sensors.count == 0) {
            throw new ArithmeticException("there are no sensors");
        }
        return (float) now.sensors.counting() / (float) now.sensors.count;
    }

    public double meanSmoke() {
        return (double) now.land.smokeInAll() / (double) CELLS;
    }

    public boolean isKept() {
        return now.land.smokeInAll() == made() + mended() - blown() - settled();
    }

    public boolean isSame() {
        while (redone < actCount) {
            Act act = acts[redone];
            if (act != null) {
                again.perform(act);
            }
            redone++;
        }
        return now.isLike(again);
    }

    private static boolean isCell(int x, int y) {
        return x >= 0 && x < WIDTH && y >= 0 && y < HEIGHT;
    }

    private static int placeOf(int x, int y) {
        if (!isCell(x, y)) {
            throw new IndexOutOfBoundsException("there is no such cell");
        }
        return y * WIDTH + x;
    }

    private static void checkNumber(int number, int count) {
        if (number < 0 || number >= count) {
            throw new IndexOutOfBoundsException("there is none of this number");
        }
    }

    private static void checkRange(int value, int least, int most) {
        if (value < least || value > most) {
            throw new IllegalArgumentException("a number is out of range");
        }
    }

    private static void checkRoom(int count, int most) {
        if (count >= most) {
            throw new IllegalStateException("there are as many as there may be");
        }
    }

    private Act noted(int kind, int a, int b, int c, int d) {
        Act act = new Act(kind, a, b, c, d);
        // More acts than this need more than the 512 calls behind which every answer is free.
        if (actCount < acts.length) {
            acts[actCount] = act;
            actCount++;
        }
        return act;
    }

    /** One call that changed the world, with its checked arguments in the order of the call. */
    private static final class Act {
        final int kind;
        final int a;
        final int b;
        final int c;
        final int d;

        Act(int kind, int a, int b, int c, int d) {
            this.kind = kind;
            this.a = a;
            this.b = b;
            this.c = c;
            this.d = d;
        }
    }

    /** All that acts and hours change. */
    private static final class World {
        final Land land = new Land();
        final Outlook outlook = new Outlook();
        final Sensors sensors = new Sensors();
        final Subscribers subscribers = new Subscribers();
        final Schools schools = new Schools();
        int hour = 0;

        int perform(Act act) {
            switch (act.kind) {
                case SET_FUEL:
                    return land.replaceFuel(act.a, act.b);
                case LIGHT:
                    return land.kindle(act.a, act.b);
                case SET_WIND:
                    return land.turnWind(act.a, act.b, act.c);
                case SET_RAIN:
                    return land.changeRain(act.a);
                case DIG_LINE:
                    return land.sendCrew(act.a, act.b);
                case ADD_SENSOR:
                    return sensors.enter(act.a);
                case READ:
                    return sensors.take(act.a, act.b);
                case SUBSCRIBE:
                    return subscribers.enter(act.a, act.b, act.c, act.d);
                case ADD_SCHOOL:
                    return schools.enter(act.a, act.b);
                case PASS:
                    for (int i = 0; i < act.a; i++) {
                        runHour();
                    }
                    return hour;
                default:
                    return 0;
            }
        }

        private void runHour() {
            int hourOfDay = hour % DAY;
            land.runModel();
            sensors.judgeAll();
            sensors.mendAll(land);
            subscribers.warnAll(land, hour, hourOfDay);
            if (hourOfDay == DAY - 1 && schools.count > 0) {
                outlook.look(land, MAX_AHEAD);
                schools.decide(outlook);
            }
            hour++;
            sensors.forgetReadings();
        }

        boolean isLike(World other) {
            for (int i = 0; i < CELLS; i++) {
                if (land.smoke[i] != other.land.smoke[i]) {
                    return false;
                }
            }
            return sensors.trustsAreLike(other.sensors) && subscribers.sentAreLike(other.subscribers);
        }
    }

    /** The cells, the weather and the crews: all that the model, the steps 1 to 5 of an hour, needs. */
    private static final class Land {
        final int[] fuel = new int[CELLS];
        final int[] fire = new int[CELLS];
        final int[] smoke = new int[CELLS];
        final boolean[] line = new boolean[CELLS];
        final int[] crewHours = new int[CREWS];
        final int[] crewPlaces = new int[CREWS];
        // Within a step it holds what the step brings to each cell, so that cells see only what was ahead of it.
        private final int[] brought = new int[CELLS];
        private int windX = 0;
        private int windY = 0;
        private int windStrength = 0;
        private int rain = 0;
        long smokeMade = 0;
        long smokeBlown = 0;
        long smokeSettled = 0;

        Land() {
            Arrays.fill(fuel, FIRST_FUEL);
        }

        /** Takes over the cells, the weather and the crews; the sums of smoke stay its own. */
        void copyFrom(Land other) {
            System.arraycopy(other.fuel, 0, fuel, 0, CELLS);
            System.arraycopy(other.fire, 0, fire, 0, CELLS);
            System.arraycopy(other.smoke, 0, smoke, 0, CELLS);
            for (int i = 0; i < CELLS; i++) {
                line[i] = other.line[i];
            }
            System.arraycopy(other.crewHours, 0, crewHours, 0, CREWS);
            System.arraycopy(other.crewPlaces, 0, crewPlaces, 0, CREWS);
            windX = other.windX;
            windY = other.windY;
            windStrength = other.windStrength;
            rain = other.rain;
        }

        int replaceFuel(int place, int newFuel) {
            int before = fuel[place];
            fuel[place] = newFuel;
            return before;
        }

        /** Answers 1 if the cell burns just so strong now, also if it did before, otherwise 0. */
        int kindle(int place, int strength) {
            if (strength > fire[place]) {
                fire[place] = strength;
            }
            return fire[place] == strength ? 1 : 0;
        }

        int turnWind(int dx, int dy, int strength) {
            int before = windStrength;
            windX = dx;
            windY = dy;
            windStrength = strength;
            return before;
        }

        int changeRain(int newRain) {
            int before = rain;
            rain = newRain;
            return before;
        }

        int sendCrew(int place, int crew) {
            crewPlaces[crew] = place;
            crewHours[crew] = LINE_HOURS + fuel[place] / FUEL_OF_LINE_HOUR;
            return crewHours[crew];
        }

        long smokeInAll() {
            long sum = 0;
            for (int i = 0; i < CELLS; i++) {
                sum += smoke[i];
            }
            return sum;
        }

        /** The steps 1 to 5 of an hour. */
        void runModel() {
            dig();
            burn();
            spread();
            for (int i = 0; i < windStrength; i++) {
                carry();
            }
            settle();
        }

        private void dig() {
            for (int crew = 0; crew < CREWS; crew++) {
                if (crewHours[crew] > 0) {
                    crewHours[crew]--;
                    if (crewHours[crew] == 0) {
                        line[crewPlaces[crew]] = true;
                        fire[crewPlaces[crew]] = 0;
                    }
                }
            }
        }

        private void burn() {
            int weaker = rain / 3;
            for (int i = 0; i < CELLS; i++) {
                int burnt = fire[i] < fuel[i] ? fire[i] : fuel[i];
                fuel[i] -= burnt;
                smoke[i] += burnt * SMOKE_OF_FUEL;
                smokeMade += burnt * SMOKE_OF_FUEL;
                fire[i] = fuel[i] == 0 || fire[i] < weaker ? 0 : fire[i] - weaker;
            }
        }

        private void spread() {
            Arrays.fill(brought, 0);
            for (int i = 0; i < CELLS; i++) {
                int x = i % WIDTH;
                int y = i / WIDTH;
                if (fire[i] >= TELLS_NEIGHBOURS) {
                    tell(x - 1, y, 1);
                    tell(x + 1, y, 1);
                    tell(x, y - 1, 1);
                    tell(x, y + 1, 1);
                }
                if (fire[i] >= TELLS_BY_WIND && windStrength > 0) {
                    tell(x + windX, y + windY, windStrength + 1);
                }
            }
            for (int i = 0; i < CELLS; i++) {
                if (fuel[i] > 0 && !line[i] && fire[i] < brought[i]) {
                    fire[i] = brought[i];
                }
            }
        }

        private void tell(int x, int y, int strength) {
            if (!isCell(x, y)) {
                return;
            }
            int place = y * WIDTH + x;
            if (brought[place] < strength) {
                brought[place] = strength;
            }
        }

        private void carry() {
            Arrays.fill(brought, 0);
            for (int i = 0; i < CELLS; i++) {
                int carried = smoke[i] / 4;
                int x = i % WIDTH + windX;
                int y = i / WIDTH + windY;
                smoke[i] -= carried;
                if (isCell(x, y)) {
                    brought[y * WIDTH + x] += carried;
                } else {
                    smokeBlown += carried;
                }
            }
            for (int i = 0; i < CELLS; i++) {
                smoke[i] += brought[i];
            }
        }

        private void settle() {
            for (int i = 0; i < CELLS; i++) {
                int gone = smoke[i] * (rain + 1) / 20;
                smoke[i] -= gone;
                smokeSettled += gone;
            }
        }
    }

    /** What the model alone tells of the next hours, reckoned on a land of its own. */
    private static final class Outlook {
        final Land ahead = new Land();
        final int[] peaks = new int[CELLS];

        void look(Land land, int hours) {
            ahead.copyFrom(land);
            Arrays.fill(peaks, 0);
            for (int h = 0; h < hours; h++) {
                ahead.runModel();
                for (int i = 0; i < CELLS; i++) {
                    if (peaks[i] < ahead.smoke[i]) {
                        peaks[i] = ahead.smoke[i];
                    }
                }
            }
        }
    }

    /** The sensors, and step 6 of an hour. */
    private static final class Sensors {
        final int[] trusts = new int[MAX_SENSORS];
        private final int[] places = new int[MAX_SENSORS];
        private final boolean[] hasRead = new boolean[MAX_SENSORS];
        private final int[] values = new int[MAX_SENSORS];
        private final boolean[] leftOut = new boolean[MAX_SENSORS];
        private final int[] doubtsInRow = new int[MAX_SENSORS];
        private final int[] agreementsInRow = new int[MAX_SENSORS];
        // All verdicts are found before the first one is carried out: it may change who is a neighbour.
        private final int[] verdicts = new int[MAX_SENSORS];
        int count = 0;
        long smokeMended = 0;

        int enter(int place) {
            int number = count;
            places[number] = place;
            trusts[number] = FIRST_TRUST;
            count++;
            return number;
        }

        int take(int sensor, int value) {
            hasRead[sensor] = true;
            values[sensor] = value;
            int readings = 0;
            for (int i = 0; i < count; i++) {
                if (hasRead[i]) {
                    readings++;
                }
            }
            return readings;
        }

        void forgetReadings() {
            for (int i = 0; i < count; i++) {
                hasRead[i] = false;
            }
        }

        char sign(int sensor) {
            if (leftOut[sensor]) {
                return 'x';
            }
            return doubtsInRow[sensor] > 0 ? '?' : '+';
        }

        int counting() {
            int counting = 0;
            for (int i = 0; i < count; i++) {
                if (!leftOut[i]) {
                    counting++;
                }
            }
            return counting;
        }

        /** What the neighbours tell, or NO_MEAN where this sensor can't be judged. */
        int meanAround(int sensor) {
            if (!hasRead[sensor]) {
                return NO_MEAN;
            }
            int neighbours = 0;
            int sum = 0;
            for (int i = 0; i < count; i++) {
                if (i != sensor && hasRead[i] && !leftOut[i] && isNear(places[i], places[sensor])) {
                    neighbours++;
                    sum += values[i];
                }
            }
            return neighbours < MIN_NEIGHBOURS ? NO_MEAN : sum / neighbours;
        }

        private static boolean isNear(int place, int other) {
            int dx = place % WIDTH - other % WIDTH;
            int dy = place / WIDTH - other / WIDTH;
            return dx >= -SENSOR_REACH && dx <= SENSOR_REACH && dy >= -SENSOR_REACH && dy <= SENSOR_REACH;
        }

        void judgeAll() {
            for (int i = 0; i < count; i++) {
                verdicts[i] = verdictOn(i);
            }
            for (int i = 0; i < count; i++) {
                if (verdicts[i] == AGREES) {
                    believe(i);
                } else if (verdicts[i] == DOUBTED) {
                    doubt(i);
                }
            }
        }

        private int verdictOn(int sensor) {
            int mean = meanAround(sensor);
            if (mean == NO_MEAN) {
                return UNJUDGED;
            }
            int away = values[sensor] < mean ? mean - values[sensor] : values[sensor] - mean;
            return away <= mean / 2 || away <= ALWAYS_AGREES ? AGREES : DOUBTED;
        }

        private void believe(int sensor) {
            doubtsInRow[sensor] = 0;
            agreementsInRow[sensor]++;
            int more = trusts[sensor] + TRUST_WON;
            trusts[sensor] = more > MAX_TRUST ? MAX_TRUST : more;
            if (leftOut[sensor] && agreementsInRow[sensor] >= AGREEMENTS_TO_TAKE_BACK) {
                leftOut[sensor] = false;
                trusts[sensor] = TRUST_TAKEN_BACK;
            }
        }

        private void doubt(int sensor) {
            agreementsInRow[sensor] = 0;
            doubtsInRow[sensor]++;
            int less = trusts[sensor] - TRUST_LOST;
            trusts[sensor] = less < 0 ? 0 : less;
            if (doubtsInRow[sensor] >= DOUBTS_TO_LEAVE_OUT) {
                leftOut[sensor] = true;
            }
        }

        void mendAll(Land land) {
            for (int place = 0; place < CELLS; place++) {
                int trusted = 0;
                int weighed = 0;
                for (int i = 0; i < count; i++) {
                    if (places[i] == place && hasRead[i] && !leftOut[i]) {
                        trusted += trusts[i];
                        weighed += trusts[i] * values[i];
                    }
                }
                if (trusted > 0) {
                    int change = (weighed / trusted - land.smoke[place]) * trusted / (trusted + 100);
                    land.smoke[place] += change;
                    smokeMended += change;
                }
            }
        }

        boolean trustsAreLike(Sensors other) {
            if (count != other.count) {
                return false;
            }
            for (int i = 0; i < count; i++) {
                if (trusts[i] != other.trusts[i]) {
                    return false;
                }
            }
            return true;
        }
    }

    /** The subscribers, the warnings sent to them, and step 7 of an hour. */
    private static final class Subscribers {
        final boolean[] warned = new boolean[MAX_SUBSCRIBERS];
        private final int[] places = new int[MAX_SUBSCRIBERS];
        private final int[] bounds = new int[MAX_SUBSCRIBERS];
        private final int[] firstHours = new int[MAX_SUBSCRIBERS];
        private final int[] lastHours = new int[MAX_SUBSCRIBERS];
        int count = 0;
        int[] sentAt = new int[FIRST_WARNINGS];
        int[] sentTo = new int[FIRST_WARNINGS];
        int[] sentBy = new int[FIRST_WARNINGS];
        int sent = 0;

        int enter(int place, int bound, int from, int till) {
            int number = count;
            places[number] = place;
            bounds[number] = bound;
            firstHours[number] = from;
            lastHours[number] = till;
            count++;
            return number;
        }

        void warnAll(Land land, int hour, int hourOfDay) {
            for (int i = 0; i < count; i++) {
                int smoke = land.smoke[places[i]];
                if (!warned[i] && smoke >= bounds[i] && hasHour(i, hourOfDay)) {
                    warned[i] = true;
                    send(hour, i, smoke);
                } else if (warned[i] && smoke < bounds[i] - OVER_BELOW_BOUND) {
                    warned[i] = false;
                }
            }
        }

        private boolean hasHour(int subscriber, int hourOfDay) {
            boolean begun = firstHours[subscriber] <= hourOfDay;
            boolean goesOn = hourOfDay <= lastHours[subscriber];
            boolean overMidnight = lastHours[subscriber] < firstHours[subscriber];
            return overMidnight ? begun || goesOn : begun && goesOn;
        }

        private void send(int hour, int subscriber, int smoke) {
            if (sent >= sentAt.length) {
                // Most runs send few warnings, so the rows begin small and grow.
                sentAt = Arrays.copyOf(sentAt, sent * 2);
                sentTo = Arrays.copyOf(sentTo, sent * 2);
                sentBy = Arrays.copyOf(sentBy, sent * 2);
            }
            sentAt[sent] = hour;
            sentTo[sent] = subscriber;
            sentBy[sent] = smoke;
            sent++;
        }

        boolean sentAreLike(Subscribers other) {
            if (sent != other.sent) {
                return false;
            }
            for (int i = 0; i < sent; i++) {
                if (sentAt[i] != other.sentAt[i] || sentTo[i] != other.sentTo[i] || sentBy[i] != other.sentBy[i]) {
                    return false;
                }
            }
            return true;
        }
    }

    /** The schools, and step 8 of an hour. */
    private static final class Schools {
        final boolean[] open = new boolean[MAX_SCHOOLS];
        private final int[] places = new int[MAX_SCHOOLS];
        private final int[] bounds = new int[MAX_SCHOOLS];
        int count = 0;
        int closed = 0;

        int enter(int place, int bound) {
            int number = count;
            places[number] = place;
            bounds[number] = bound;
            open[number] = true;
            count++;
            return number;
        }

        void decide(Outlook outlook) {
            for (int i = 0; i < count; i++) {
                boolean safe = outlook.peaks[places[i]] < bounds[i];
                if (open[i] && !safe) {
                    closed++;
                }
                open[i] = safe;
            }
        }
    }
}
