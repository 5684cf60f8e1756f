import java.io.IOException;
import java.nio.file.Files;
import java.nio.file.Path;
import java.util.List;
import java.util.regex.Matcher;
import java.util.regex.Pattern;

/** What of ../shared/LANGUAGE.md can be told from the program's text, comments and written texts left out. */
final class LanguageTest {
    private static final Check CHECK = new Check();
    private static final int MOST_LINES_OF_METHOD = 60;
    private static final int MOST_PARAMETERS = 7;
    private static final int MOST_CLASSES = 12;

    private static final String[] FORBIDDEN = {
        "->", "::", "\\bsynchronized\\b", "\\bassert\\b", "\\bfinally\\b", "\\bpackage\\b", "\\btry\\b", "\\bcatch\\b",
        "\\bnative\\b", "\\bvar\\b", "\\bSystem\\.(?!arraycopy\\b)", "Exact\\b", "\\bMath\\.", "\\bThread\\b",
        "\\bObject\\b", "\\bClass\\b", "\\bList\\b", "\\bMap\\b", "@", "\\bequals\\b", "\\bhashCode\\b", "\\btoString\\b",
        "\\bjava\\.(?!util\\.Arrays;)", "\\bArrays\\.(?!(copyOf|fill)\\()",
    };

    public static void main(String[] args) throws IOException {
        String text = Files.readString(Path.of("src/main/java/SmokeWard.java"));
        CHECK.yes("signs 1 to 127", text.chars().allMatch(sign -> sign > 0 && sign < 128));
        String bare = withoutTexts(text);
        for (String pattern : FORBIDDEN) {
            CHECK.no("the program has " + pattern, Pattern.compile(pattern).matcher(bare).find());
        }
        staticFieldsAreConstants(bare);
        throwsAreOfTheList(bare);
        methodsAreShort(bare);
        CHECK.yes("classes", count("\\bclass \\w+", bare) <= MOST_CLASSES);
        CHECK.same("imports", count("\\bimport\\b", bare), 1);
        CHECK.end();
    }

    private static String withoutTexts(String text) {
        return text.replaceAll("(?s)/\\*.*?\\*/", "").replaceAll("//[^\n]*", "").replaceAll("\"[^\"\n]*\"", "\"\"");
    }

    private static int count(String pattern, String text) {
        return (int) Pattern.compile(pattern).matcher(text).results().count();
    }

    private static void staticFieldsAreConstants(String text) {
        Matcher field = Pattern.compile("(?m)^.*\\bstatic\\b[^({;=\n]*[;=].*$").matcher(text);
        while (field.find()) {
            CHECK.yes(field.group() + " is a constant",
                field.group().matches(" *private static final (int|long|boolean|char|String) \\w+ = [^;]+;"));
        }
    }

    private static void throwsAreOfTheList(String text) {
        String list = "IllegalStateException|IllegalArgumentException|IndexOutOfBoundsException|ArithmeticException"
            + "|UnsupportedOperationException";
        CHECK.same("throw statements", count("\\bthrow\\b", text), count("\\bthrow new (" + list + ")\\(\"\"\\);", text));
    }

    private static void methodsAreShort(String text) {
        Matcher head = Pattern.compile("(?m)^( +)[\\w\\[\\] ]+\\(([^()]*)\\)[^;{]*\\{$").matcher(text);
        List<String> words = List.of("if", "for", "while", "switch", "else", "do");
        while (head.find()) {
            String line = head.group().strip();
            if (words.contains(line.split("\\W")[0])) {
                continue;
            }
            int end = text.indexOf("\n" + head.group(1) + "}", head.start());
            CHECK.yes(line + " is short", text.substring(head.start(), end).lines().count() <= MOST_LINES_OF_METHOD);
            CHECK.yes(line + " takes few", head.group(2).split(",").length <= MOST_PARAMETERS);
        }
    }
}
