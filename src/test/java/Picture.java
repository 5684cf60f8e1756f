/** All that the face tells of an object, as a text. */
final class Picture {
    private static final int SENSORS = 10;
    private static final int SUBSCRIBERS = 12;
    private static final int SCHOOLS = 6;
    private static final int CREWS = 3;

    private interface Numbered {
        String of(int number);
    }

    private Picture() {
    }

    static String of(SmokeWard ward) {
        StringBuilder text = new StringBuilder();
        for (int y = 0; y < 6; y++) {
            for (int x = 0; x < 8; x++) {
                text.append(ward.fuel(x, y)).append(' ').append(ward.fire(x, y)).append(' ');
                text.append(ward.smoke(x, y)).append(' ').append(ward.hasLine(x, y)).append(' ');
                text.append(ward.forecast(x, y, 1)).append(' ').append(ward.worst(x, y, 3)).append('\n');
            }
        }
        for (int crew = 0; crew < CREWS; crew++) {
            text.append("crew ").append(ward.left(crew)).append('\n');
        }
        row(text, SENSORS, i -> ward.trust(i) + " " + ward.stateOf(i));
        row(text, SENSORS, i -> "told " + ward.judged(i));
        row(text, SUBSCRIBERS, i -> "warned " + ward.isWarned(i));
        row(text, SCHOOLS, i -> "open " + ward.isOpen(i));
        for (int i = 0; i < ward.warnings(); i++) {
            text.append(ward.warnedAt(i)).append(' ').append(ward.warnedWhom(i)).append(' ');
            text.append(ward.warnedBy(i)).append('\n');
        }
        text.append(ward.hour()).append(' ').append(ward.closings()).append(' ').append(ward.made()).append(' ');
        text.append(ward.blown()).append(' ').append(ward.settled()).append(' ').append(ward.mended()).append(' ');
        row(text, 1, i -> "share " + ward.trustShare());
        text.append(ward.meanSmoke()).append(' ').append(ward.isKept()).append(' ').append(ward.isSame());
        return text.toString();
    }

    private static void row(StringBuilder text, int most, Numbered told) {
        for (int i = 0; i < most; i++) {
            try {
                text.append(told.of(i)).append('\n');
            } catch (RuntimeException e) {
                text.append(e.getClass().getSimpleName()).append('\n');
            }
        }
    }
}
