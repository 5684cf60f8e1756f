import java.io.IOException;
import java.lang.reflect.Method;
import java.lang.reflect.Modifier;
import java.nio.file.Files;
import java.nio.file.Path;
import java.util.ArrayList;
import java.util.Arrays;
import java.util.List;
import java.util.regex.Matcher;
import java.util.regex.Pattern;

/** README.md: each call of its example answers as told there, and each call of the face is told of. */
final class ReadmeTest {
    private static final Check CHECK = new Check();
    private static final Pattern TOLD = Pattern.compile("(?m)^    ward\\.(\\w+)\\(([-\\d, ]*)\\); +// (\\S+)$");
    private static final int FEWEST_TOLD = 15;

    public static void main(String[] args) throws IOException, ReflectiveOperationException {
        String text = Files.readString(Path.of("README.md"));
        example(text);
        for (Method call : SmokeWard.class.getDeclaredMethods()) {
            if (Modifier.isPublic(call.getModifiers())) {
                CHECK.yes("tells of " + call.getName(), text.contains("`" + call.getName() + "("));
            }
        }
        CHECK.yes("tells how to run the tests", text.contains("\n    .ci/run\n"));
        testsAreNamed(text);
        CHECK.end();
    }

    private static void example(String text) throws ReflectiveOperationException {
        SmokeWard ward = new SmokeWard();
        int told = 0;
        Matcher line = TOLD.matcher(text);
        while (line.find()) {
            List<Integer> numbers = numbers(line.group(2));
            Class<?>[] types = new Class<?>[numbers.size()];
            Arrays.fill(types, int.class);
            Object got = SmokeWard.class.getMethod(line.group(1), types).invoke(ward, numbers.toArray());
            CHECK.same(line.group().strip(), String.valueOf(got), line.group(3));
            told++;
        }
        CHECK.yes("an example", told >= FEWEST_TOLD);
        CHECK.same("all its lines", told, Pattern.compile("(?m)^    ward\\.").matcher(text).results().count());
    }

    private static List<Integer> numbers(String text) {
        List<Integer> numbers = new ArrayList<>();
        for (String number : text.isEmpty() ? new String[0] : text.split(", ")) {
            numbers.add(Integer.valueOf(number));
        }
        return numbers;
    }

    private static void testsAreNamed(String text) throws IOException {
        try (var files = Files.list(Path.of("src/test/java"))) {
            files.map(file -> file.getFileName().toString()).filter(name -> name.endsWith("Test.java"))
                .forEach(name -> CHECK.yes("has a row of " + name,
                    text.contains("\n| " + name.substring(0, name.length() - ".java".length()) + " |")));
        }
    }
}
