/** What the face tells of an object, as a text. */
final class Picture {
    private static final int SENSORS = 10;
    private static final int SUBSCRIBERS = 12;
    private static final int SCHOOLS = 6;
    private static final int CREWS = 3;

    private interface Numbered {
        String of(int number);
    }

    private Picture() {
    }

    /** Takes some 300 of the 512 calls that an object serves, and 3 for each warning, and changes nothing. */
    static String of(SmokeWard ward) {
        StringBuilder text = new StringBuilder();
        for (int y = 0; y < 6; y++) {
            for (int x = 0; x < 8; x++) {
                text.append(ward.fuel(x, y)).append(' ').append(ward.fire(x, y)).append(' ');
                text.append(ward.smoke(x, y)).append(' ').append(ward.hasLine(x, y)).append(' ');
                text.append(ward.forecast(x, y, 1)).append('\n');
            }
        }
        row(text, CREWS, i -> "left " + ward.left(i));
        row(text, SENSORS, i -> ward.trust(i) + " " + ward.stateOf(i));
        row(text, SENSORS, i -> "told " + ward.judged(i));
        row(text, SUBSCRIBERS, i -> "warned " + ward.isWarned(i));
        row(text, SCHOOLS, i -> "open " + ward.isOpen(i));
        row(text, ward.warnings(), i -> ward.warnedAt(i) + " " + ward.warnedWhom(i) + " " + ward.warnedBy(i));
        text.append(ward.hour()).append(' ').append(ward.closings()).append(' ').append(ward.made()).append(' ');
        text.append(ward.blown()).append(' ').append(ward.settled()).append(' ').append(ward.mended()).append(' ');
        row(text, 1, i -> "share " + ward.trustShare());
        text.append(ward.meanSmoke()).append(' ').append(ward.isKept()).append(' ').append(ward.isSame()).append('\n');
        return text.toString();
    }

    /** Also what one hour more brings, and what the weather was: some 110 calls more, which change the object. */
    static String ofAllAndNext(SmokeWard ward) {
        StringBuilder text = new StringBuilder(of(ward));
        row(text, 1, i -> "hour " + ward.pass(1));
        for (int y = 0; y < 6; y++) {
            for (int x = 0; x < 8; x++) {
                text.append(ward.fire(x, y)).append(' ').append(ward.smoke(x, y)).append('\n');
            }
        }
        row(text, SENSORS, i -> "trust " + ward.trust(i));
        text.append(ward.setRain(0)).append(' ').append(ward.setWind(0, 0, 0));
        return text.toString();
    }

    private static void row(StringBuilder text, int most, Numbered told) {
        for (int i = 0; i < most; i++) {
            try {
                text.append(told.of(i)).append('\n');
            } catch (RuntimeException e) {
                text.append(e.getClass().getSimpleName()).append('\n');
            }
        }
    }
}
