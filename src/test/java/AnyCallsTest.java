import java.lang.reflect.InvocationTargetException;
import java.lang.reflect.Method;
import java.lang.reflect.Modifier;
import java.util.Arrays;
import java.util.Comparator;

/** Any calls with any arguments, far more than 512: they end, and what they throw is a documented throw statement's. */
final class AnyCallsTest {
    private static final Check CHECK = new Check();
    private static final int RUNS = 20;
    private static final int CALLS = 12000;
    private static final int[] NUMBERS = {Integer.MIN_VALUE, Integer.MIN_VALUE + 1, -10000, -2, -1, 0, 1, 2, 3, 4, 5, 6, 7,
        8, 9, 10, 11, 12, 13, 19, 20, 23, 24, 25, 48, 99, 100, 512, 999, 9999, 10000, Integer.MAX_VALUE - 1,
        Integer.MAX_VALUE};
    private static final int FIRST_SMALL = 5;
    private static final int SMALL = 8;

    private long seed;

    private AnyCallsTest(long seed) {
        this.seed = seed * 104729 + 31;
    }

    public static void main(String[] args) throws IllegalAccessException {
        Method[] calls = Arrays.stream(SmokeWard.class.getDeclaredMethods())
            .filter(method -> Modifier.isPublic(method.getModifiers()))
            .sorted(Comparator.comparing(Method::getName)).toArray(Method[]::new);
        CHECK.same("calls of the face", calls.length, 36);
        for (int run = 0; run < RUNS; run++) {
            new AnyCallsTest(run).run(calls);
        }
        CHECK.end();
    }

    private int pick(int bound) {
        seed = seed * 6364136223846793005L + 1442695040888963407L;
        return (int) ((seed >>> 33) % bound);
    }

    private int number() {
        return pick(5) > 0 ? NUMBERS[FIRST_SMALL + pick(SMALL)] : NUMBERS[pick(NUMBERS.length)];
    }

    private void run(Method[] calls) throws IllegalAccessException {
        SmokeWard ward = new SmokeWard();
        for (int i = 0; i < CALLS; i++) {
            Method call = calls[pick(calls.length)];
            Object[] numbers = new Object[call.getParameterCount()];
            for (int j = 0; j < numbers.length; j++) {
                numbers[j] = number();
            }
            try {
                call.invoke(ward, numbers);
            } catch (InvocationTargetException e) {
                documented(call, numbers, e.getCause());
            }
        }
    }

    /** The machine's own exceptions are of other classes, or begin in another one, or bear other texts. */
    private static void documented(Method call, Object[] numbers, Throwable thrown) {
        String what = call.getName() + Arrays.toString(numbers) + " threw " + thrown;
        CHECK.yes(what + ", documented", Arrays.asList(call.getExceptionTypes()).contains(thrown.getClass()));
        StackTraceElement[] trace = thrown.getStackTrace();
        CHECK.yes(what + ", by the class", trace.length > 0 && trace[0].getClassName().startsWith("SmokeWard"));
        CHECK.no(what + ", by the machine", what.contains("zero") || what.contains("length"));
    }
}
