import java.util.ArrayList;
import java.util.HashSet;
import java.util.List;
import java.util.Set;

/** A second reading of the document, step by step in its words, for RunsTest: slow, and made anew each step. */
final class PlainWard {
    private static final class Cell {
        int fuel = 10;
        int fire;
        int smoke;
        boolean line;

        Cell copy() {
            Cell cell = new Cell();
            cell.fuel = fuel;
            cell.fire = fire;
            cell.smoke = smoke;
            cell.line = line;
            return cell;
        }
    }

    private static final class Crew {
        int x;
        int y;
        int hours;
    }

    private static final class Sensor {
        int x;
        int y;
        int trust = 50;
        Integer read;
        boolean out;
        String verdicts = "";
    }

    private static final class Subscriber {
        int x;
        int y;
        int bound;
        boolean warned;
        final Set<Integer> hours = new HashSet<>();
    }

    private static final class School {
        int x;
        int y;
        int bound;
        boolean open = true;
    }

    private Cell[][] cells = new Cell[8][6];
    private Crew[] crews = {new Crew(), new Crew(), new Crew()};
    private int dx;
    private int dy;
    private int strength;
    private int rain;
    private final List<Sensor> sensors = new ArrayList<>();
    private final List<Subscriber> subscribers = new ArrayList<>();
    private final List<School> schools = new ArrayList<>();
    private final List<String> warnings = new ArrayList<>();
    private int hour;
    private int closings;
    private long made;
    private long blown;
    private long settled;
    private long mended;

    PlainWard() {
        for (int x = 0; x < 8; x++) {
            for (int y = 0; y < 6; y++) {
                cells[x][y] = new Cell();
            }
        }
    }

    private static boolean onLand(int x, int y) {
        return 0 <= x && x <= 7 && 0 <= y && y <= 5;
    }

    private static void cell(int x, int y) {
        if (!onLand(x, y)) {
            throw new IndexOutOfBoundsException();
        }
    }

    private static void range(boolean inside) {
        if (!inside) {
            throw new IllegalArgumentException();
        }
    }

    private static void known(int number, int count) {
        if (number < 0 || number >= count) {
            throw new IndexOutOfBoundsException();
        }
    }

    private static void room(boolean there) {
        if (!there) {
            throw new IllegalStateException();
        }
    }

    private static void possible(boolean possible) {
        if (!possible) {
            throw new UnsupportedOperationException();
        }
    }

    int setFuel(int x, int y, int fuel) {
        cell(x, y);
        range(fuel >= 0 && fuel <= 99);
        int before = cells[x][y].fuel;
        cells[x][y].fuel = fuel;
        return before;
    }

    boolean light(int x, int y, int fire) {
        cell(x, y);
        range(fire >= 1 && fire <= 9);
        Cell cell = cells[x][y];
        possible(cell.fuel > 0 && !cell.line);
        cell.fire = Math.max(cell.fire, fire);
        return cell.fire == fire;
    }

    int setWind(int newX, int newY, int newStrength) {
        range(Math.abs(newX) <= 1 && Math.abs(newY) <= 1 && newStrength >= 0 && newStrength <= 4);
        range(newStrength == 0 || newX != 0 || newY != 0);
        int before = strength;
        dx = newX;
        dy = newY;
        strength = newStrength;
        return before;
    }

    int setRain(int newRain) {
        range(newRain >= 0 && newRain <= 9);
        int before = rain;
        rain = newRain;
        return before;
    }

    int digLine(int x, int y, int crew) {
        cell(x, y);
        range(crew >= 0 && crew <= 2);
        possible(!cells[x][y].line && cells[x][y].fire < 5);
        crews[crew].x = x;
        crews[crew].y = y;
        crews[crew].hours = 2 + cells[x][y].fuel / 20;
        return crews[crew].hours;
    }

    int addSensor(int x, int y) {
        cell(x, y);
        room(sensors.size() < 10);
        Sensor sensor = new Sensor();
        sensor.x = x;
        sensor.y = y;
        sensors.add(sensor);
        return sensors.size() - 1;
    }

    int read(int sensor, int value) {
        known(sensor, sensors.size());
        range(value >= 0 && value <= 9999);
        sensors.get(sensor).read = value;
        return (int) sensors.stream().filter(s -> s.read != null).count();
    }

    int trust(int sensor) {
        known(sensor, sensors.size());
        return sensors.get(sensor).trust;
    }

    char stateOf(int sensor) {
        known(sensor, sensors.size());
        Sensor s = sensors.get(sensor);
        return s.out ? 'x' : s.verdicts.endsWith("-") ? '?' : '+';
    }

    int judged(int sensor) {
        known(sensor, sensors.size());
        Integer mean = mean(sensors.get(sensor));
        possible(mean != null);
        return mean;
    }

    private Integer mean(Sensor sensor) {
        List<Integer> told = new ArrayList<>();
        for (Sensor other : sensors) {
            boolean near = Math.max(Math.abs(other.x - sensor.x), Math.abs(other.y - sensor.y)) <= 2;
            if (other != sensor && near && other.read != null && !other.out) {
                told.add(other.read);
            }
        }
        if (sensor.read == null || told.size() < 2) {
            return null;
        }
        return told.stream().mapToInt(Integer::intValue).sum() / told.size();
    }

    int subscribe(int x, int y, int bound, int from, int till) {
        cell(x, y);
        range(bound >= 20 && bound <= 9999 && from >= 0 && from <= 23 && till >= 0 && till <= 23);
        room(subscribers.size() < 12);
        Subscriber subscriber = new Subscriber();
        subscriber.x = x;
        subscriber.y = y;
        subscriber.bound = bound;
        for (int h = from; h != till; h = (h + 1) % 24) {
            subscriber.hours.add(h);
        }
        subscriber.hours.add(till);
        subscribers.add(subscriber);
        return subscribers.size() - 1;
    }

    int addSchool(int x, int y, int bound) {
        cell(x, y);
        range(bound >= 20 && bound <= 9999);
        room(schools.size() < 6);
        School school = new School();
        school.x = x;
        school.y = y;
        school.bound = bound;
        schools.add(school);
        return schools.size() - 1;
    }

    boolean isOpen(int school) {
        known(school, schools.size());
        return schools.get(school).open;
    }

    boolean isWarned(int subscriber) {
        known(subscriber, subscribers.size());
        return subscribers.get(subscriber).warned;
    }

    int pass(int hours) {
        range(hours >= 1 && hours <= 24);
        room(hour + hours <= 999);
        for (int i = 0; i < hours; i++) {
            model();
            sense();
            warn();
            if (hour % 24 == 23) {
                close();
            }
            hour++;
            sensors.forEach(s -> s.read = null);
        }
        return hour;
    }

    int hour() {
        return hour;
    }

    int fuel(int x, int y) {
        cell(x, y);
        return cells[x][y].fuel;
    }

    int fire(int x, int y) {
        cell(x, y);
        return cells[x][y].fire;
    }

    int smoke(int x, int y) {
        cell(x, y);
        return cells[x][y].smoke;
    }

    boolean hasLine(int x, int y) {
        cell(x, y);
        return cells[x][y].line;
    }

    int left(int crew) {
        range(crew >= 0 && crew <= 2);
        return crews[crew].hours;
    }

    int forecast(int x, int y, int hours) {
        List<Integer> smokes = smokesAhead(x, y, hours);
        return smokes.get(smokes.size() - 1);
    }

    int worst(int x, int y, int hours) {
        return smokesAhead(x, y, hours).stream().mapToInt(Integer::intValue).max().getAsInt();
    }

    private List<Integer> smokesAhead(int x, int y, int hours) {
        cell(x, y);
        range(hours >= 1 && hours <= 12);
        PlainWard other = new PlainWard();
        other.cells = copyOfCells();
        for (int i = 0; i < 3; i++) {
            other.crews[i].x = crews[i].x;
            other.crews[i].y = crews[i].y;
            other.crews[i].hours = crews[i].hours;
        }
        other.setWind(dx, dy, strength);
        other.setRain(rain);
        List<Integer> smokes = new ArrayList<>();
        for (int i = 0; i < hours; i++) {
            other.model();
            smokes.add(other.cells[x][y].smoke);
        }
        return smokes;
    }

    int warnings() {
        return warnings.size();
    }

    String warning(int number) {
        known(number, warnings.size());
        return warnings.get(number);
    }

    int closings() {
        return closings;
    }

    String sums() {
        return made + " " + blown + " " + settled + " " + mended;
    }

    float trustShare() {
        if (sensors.isEmpty()) {
            throw new ArithmeticException();
        }
        return (float) sensors.stream().filter(s -> !s.out).count() / (float) sensors.size();
    }

    double meanSmoke() {
        double sum = 0;
        for (Cell[] column : cells) {
            for (Cell cell : column) {
                sum += cell.smoke;
            }
        }
        return sum / 48.0;
    }

    private Cell[][] copyOfCells() {
        Cell[][] copy = new Cell[8][6];
        for (int x = 0; x < 8; x++) {
            for (int y = 0; y < 6; y++) {
                copy[x][y] = cells[x][y].copy();
            }
        }
        return copy;
    }

    private void model() {
        for (Crew crew : crews) {
            if (crew.hours == 1) {
                cells[crew.x][crew.y].line = true;
                cells[crew.x][crew.y].fire = 0;
            }
            crew.hours = Math.max(0, crew.hours - 1);
        }
        for (Cell[] column : cells) {
            for (Cell cell : column) {
                for (int i = 0; i < cell.fire && cell.fuel > 0; i++) {
                    cell.fuel--;
                    cell.smoke += 10;
                    made += 10;
                }
                cell.fire = cell.fuel == 0 ? 0 : Math.max(0, cell.fire - rain / 3);
            }
        }
        spread();
        for (int i = 0; i < strength; i++) {
            carry();
        }
        for (Cell[] column : cells) {
            for (Cell cell : column) {
                long gone = (long) cell.smoke * (1 + rain) / 20;
                cell.smoke -= gone;
                settled += gone;
            }
        }
    }

    private void spread() {
        Cell[][] ahead = copyOfCells();
        for (int x = 0; x < 8; x++) {
            for (int y = 0; y < 6; y++) {
                int told = 0;
                int[][] four = {{x - 1, y}, {x + 1, y}, {x, y - 1}, {x, y + 1}};
                for (int[] next : four) {
                    if (onLand(next[0], next[1]) && ahead[next[0]][next[1]].fire >= 5) {
                        told = 1;
                    }
                }
                boolean wind = strength > 0 && onLand(x - dx, y - dy);
                if (wind && ahead[x - dx][y - dy].fire >= 3) {
                    told = 1 + strength;
                }
                if (ahead[x][y].fuel > 0 && !ahead[x][y].line && ahead[x][y].fire < told) {
                    cells[x][y].fire = told;
                }
            }
        }
    }

    private void carry() {
        Cell[][] ahead = copyOfCells();
        for (int x = 0; x < 8; x++) {
            for (int y = 0; y < 6; y++) {
                int going = ahead[x][y].smoke / 4;
                cells[x][y].smoke -= going;
                if (onLand(x + dx, y + dy)) {
                    cells[x + dx][y + dy].smoke += going;
                } else {
                    blown += going;
                }
            }
        }
    }

    private void sense() {
        List<Integer> means = new ArrayList<>();
        for (Sensor sensor : sensors) {
            means.add(mean(sensor));
        }
        for (int i = 0; i < sensors.size(); i++) {
            if (means.get(i) != null) {
                take(sensors.get(i), means.get(i));
            }
        }
        for (int x = 0; x < 8; x++) {
            for (int y = 0; y < 6; y++) {
                mend(x, y);
            }
        }
    }

    private static void take(Sensor sensor, int mean) {
        int away = Math.abs(sensor.read - mean);
        boolean agrees = away <= mean / 2 || away <= 20;
        sensor.verdicts += agrees ? "+" : "-";
        sensor.trust = agrees ? Math.min(100, sensor.trust + 10) : Math.max(0, sensor.trust - 20);
        if (!sensor.out && sensor.verdicts.endsWith("--")) {
            sensor.out = true;
        } else if (sensor.out && sensor.verdicts.endsWith("+++")) {
            sensor.out = false;
            sensor.trust = 30;
        }
    }

    private void mend(int x, int y) {
        long trusts = 0;
        long weighed = 0;
        for (Sensor sensor : sensors) {
            if (sensor.x == x && sensor.y == y && sensor.read != null && !sensor.out) {
                trusts += sensor.trust;
                weighed += (long) sensor.trust * sensor.read;
            }
        }
        if (trusts > 0) {
            long change = (weighed / trusts - cells[x][y].smoke) * trusts / (100 + trusts);
            cells[x][y].smoke += (int) change;
            mended += change;
        }
    }

    private void warn() {
        for (int i = 0; i < subscribers.size(); i++) {
            Subscriber s = subscribers.get(i);
            int smoke = cells[s.x][s.y].smoke;
            if (s.warned) {
                s.warned = s.bound - smoke <= 10;
            } else if (s.hours.contains(hour % 24) && smoke >= s.bound) {
                s.warned = true;
                warnings.add(hour + " " + i + " " + smoke);
            }
        }
    }

    private void close() {
        for (School school : schools) {
            boolean closes = worst(school.x, school.y, 12) >= school.bound;
            closings += school.open && closes ? 1 : 0;
            school.open = !closes;
        }
    }
}
