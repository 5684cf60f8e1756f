import java.lang.reflect.Field;

/**
 * Promises 36 and 37 where they are to answer no: the face alone can't bring that about, so what an object holds is
 * changed behind its back.
 */
final class TamperTest {
    private static final Check CHECK = new Check();

    public static void main(String[] args) throws ReflectiveOperationException {
        smokeFromNowhere();
        otherTrusts();
        otherWarnings();
        CHECK.end();
    }

    private static SmokeWard lived() {
        SmokeWard ward = new SmokeWard();
        for (int i = 0; i < 3; i++) {
            ward.addSensor(1, 1);
            ward.subscribe(1, 1, 20 + i, 0, 23);
        }
        for (int i = 0; i < 3; i++) {
            ward.read(i, 100);
        }
        ward.light(2, 2, 9);
        ward.pass(24);
        return ward;
    }

    private static int[] row(SmokeWard ward, String part, String name) throws ReflectiveOperationException {
        return (int[]) value(value(value(ward, "now"), part), name);
    }

    private static Object value(Object holder, String name) throws ReflectiveOperationException {
        Field field = holder.getClass().getDeclaredField(name);
        field.setAccessible(true);
        return field.get(holder);
    }

    private static void smokeFromNowhere() throws ReflectiveOperationException {
        for (int place = 0; place < 48; place++) {
            SmokeWard ward = lived();
            CHECK.yes("kept", ward.isKept());
            CHECK.yes("same", ward.isSame());
            row(ward, "land", "smoke")[place]++;
            CHECK.no("kept with smoke from nowhere", ward.isKept());
            CHECK.no("same with smoke from nowhere", ward.isSame());
            row(ward, "land", "smoke")[place]--;
            CHECK.yes("kept again", ward.isKept());
            CHECK.yes("same again", ward.isSame());
        }
    }

    private static void otherTrusts() throws ReflectiveOperationException {
        for (int sensor = 0; sensor < 3; sensor++) {
            SmokeWard ward = lived();
            row(ward, "sensors", "trusts")[sensor]++;
            CHECK.yes("kept with another trust", ward.isKept());
            CHECK.no("same with another trust", ward.isSame());
        }
    }

    private static void otherWarnings() throws ReflectiveOperationException {
        String[] names = {"sentAt", "sentTo", "sentBy"};
        for (String name : names) {
            for (int warning = 0; warning < 3; warning++) {
                SmokeWard ward = lived();
                CHECK.same("warnings", ward.warnings(), 3);
                row(ward, "subscribers", name)[warning]++;
                CHECK.no("same with another " + name, ward.isSame());
            }
        }
    }
}
