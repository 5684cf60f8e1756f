import java.lang.reflect.Constructor;
import java.lang.reflect.Field;
import java.lang.reflect.Member;
import java.lang.reflect.Method;
import java.lang.reflect.Modifier;
import java.util.ArrayList;
import java.util.Arrays;
import java.util.List;
import java.util.TreeSet;

/** The public face: just the document's members, and no private method of the same name. */
final class FaceTest {
    private static final Check CHECK = new Check();
    private static final String I = Check.INDEX;
    private static final String A = Check.ARGUMENT;
    private static final String S = Check.STATE;
    private static final String U = Check.UNSUPPORTED;

    private static final String[] FACE = {
        "int setFuel(int,int,int) " + I + " " + A,
        "boolean light(int,int,int) " + I + " " + A + " " + U,
        "int setWind(int,int,int) " + A,
        "int setRain(int) " + A,
        "int digLine(int,int,int) " + I + " " + A + " " + U,
        "int addSensor(int,int) " + I + " " + S,
        "int read(int,int) " + I + " " + A,
        "int trust(int) " + I,
        "char stateOf(int) " + I,
        "int judged(int) " + I + " " + U,
        "int subscribe(int,int,int,int,int) " + I + " " + A + " " + S,
        "int addSchool(int,int,int) " + I + " " + A + " " + S,
        "boolean isOpen(int) " + I,
        "boolean isWarned(int) " + I,
        "int pass(int) " + A + " " + S,
        "int hour()",
        "int fuel(int,int) " + I,
        "int fire(int,int) " + I,
        "int smoke(int,int) " + I,
        "boolean hasLine(int,int) " + I,
        "int left(int) " + A,
        "int forecast(int,int,int) " + I + " " + A,
        "int worst(int,int,int) " + I + " " + A,
        "int warnings()",
        "int warnedAt(int) " + I,
        "int warnedWhom(int) " + I,
        "int warnedBy(int) " + I,
        "int closings()",
        "long made()",
        "long blown()",
        "long settled()",
        "long mended()",
        "float trustShare() " + Check.ARITHMETIC,
        "double meanSmoke()",
        "boolean isKept()",
        "boolean isSame()",
    };

    public static void main(String[] args) {
        List<Method> open = new ArrayList<>();
        for (Method method : SmokeWard.class.getDeclaredMethods()) {
            if (Modifier.isPublic(method.getModifiers())) {
                open.add(method);
            }
        }
        CHECK.same("methods", new TreeSet<>(written(open)).toString(), new TreeSet<>(Arrays.asList(FACE)).toString());
        Constructor<?>[] constructors = SmokeWard.class.getDeclaredConstructors();
        CHECK.same("constructors", constructors.length, 1);
        CHECK.yes("public constructor", Modifier.isPublic(constructors[0].getModifiers()));
        CHECK.same("its parameters", constructors[0].getParameterCount(), 0);
        CHECK.yes("public", Modifier.isPublic(SmokeWard.class.getModifiers()));
        CHECK.yes("final", Modifier.isFinal(SmokeWard.class.getModifiers()));
        restIsPrivate(open);
        CHECK.end();
    }

    private static List<String> written(List<Method> methods) {
        List<String> lines = new ArrayList<>();
        for (Method method : methods) {
            lines.add(written(method));
        }
        return lines;
    }

    private static String written(Method method) {
        StringBuilder line = new StringBuilder();
        line.append(method.getReturnType()).append(' ').append(method.getName()).append('(');
        String comma = "";
        for (Class<?> type : method.getParameterTypes()) {
            line.append(comma).append(type);
            comma = ",";
        }
        line.append(')');
        for (Class<?> type : method.getExceptionTypes()) {
            line.append(' ').append(type.getSimpleName());
        }
        return line.toString();
    }

    private static void restIsPrivate(List<Method> open) {
        TreeSet<String> names = new TreeSet<>();
        for (Method method : open) {
            names.add(method.getName());
        }
        for (Method method : SmokeWard.class.getDeclaredMethods()) {
            if (!open.contains(method)) {
                isPrivate(method);
                CHECK.no(method.getName() + " is a public name", names.contains(method.getName()));
            }
        }
        for (Field field : SmokeWard.class.getDeclaredFields()) {
            isPrivate(field);
            CHECK.yes(field.getName() + " static is final",
                !Modifier.isStatic(field.getModifiers()) || Modifier.isFinal(field.getModifiers()));
        }
        for (Class<?> inner : SmokeWard.class.getDeclaredClasses()) {
            CHECK.yes(inner.getName() + " static", Modifier.isStatic(inner.getModifiers()));
            CHECK.no(inner.getName() + " public", Modifier.isPublic(inner.getModifiers()));
            for (Method method : inner.getDeclaredMethods()) {
                CHECK.no(method.getName() + " is a public name", names.contains(method.getName()));
            }
        }
    }

    private static void isPrivate(Member member) {
        CHECK.yes(member.getName() + " private", Modifier.isPrivate(member.getModifiers()));
    }
}
