import java.io.IOException;
import java.nio.file.Files;
import java.nio.file.Path;
import java.util.BitSet;
import java.util.LinkedHashMap;
import java.util.Map;

/**
 * Tests that stand each under the words of ../shared/DOC.md that they hold the program to. It also tells which words
 * of the document no test stands under.
 */
final class Sentences {
    private static final Path DOCUMENT = Path.of("../shared/DOC.md");

    final Check check = new Check();
    private final Map<String, String> texts = new LinkedHashMap<>();
    private final Map<String, BitSet> held = new LinkedHashMap<>();
    private String section = "";

    Sentences() throws IOException {
        for (String part : Files.readString(DOCUMENT).split("(?m)^#+ ")) {
            int end = part.indexOf('\n');
            if (end > 0) {
                texts.put(part.substring(0, end).strip(), part.substring(end).replaceAll("\\s+", " ").strip());
                held.put(part.substring(0, end).strip(), new BitSet());
            }
        }
    }

    /** The tests to come stand under words of this section. */
    void in(String heading) {
        section = heading;
        check.under(heading);
        check.yes("the document has this section", texts.containsKey(heading));
    }

    /** What the document says in this section, in one line. */
    String text() {
        return texts.getOrDefault(section, "");
    }

    int count(String headingPattern) {
        return (int) texts.keySet().stream().filter(heading -> heading.matches(headingPattern)).count();
    }

    void hold(String words, Runnable test) {
        check.under(section + ": \"" + words + "\"");
        mark(words);
        try {
            test.run();
        } catch (RuntimeException e) {
            check.same("the test", "ended by " + e, "ended");
        }
    }

    /** Words that name nothing that a call could answer. */
    void leave(String words) {
        check.under(section);
        mark(words);
    }

    private void mark(String words) {
        String text = text();
        int at = text.indexOf(words);
        check.yes("the document has the words \"" + words + "\"", at >= 0);
        while (at >= 0) {
            held.get(section).set(at, at + words.length());
            at = text.indexOf(words, at + 1);
        }
    }

    /** Every word of the document has been marked. */
    void holdAll() {
        for (String heading : texts.keySet()) {
            check.under(heading);
            check.same("words without a test", unmarked(heading), "");
        }
    }

    private String unmarked(String heading) {
        StringBuilder rest = new StringBuilder();
        String text = texts.get(heading);
        for (int i = 0; i < text.length(); i++) {
            rest.append(held.get(heading).get(i) ? ' ' : text.charAt(i));
        }
        return rest.toString().replaceAll("\\s+", " ").strip();
    }
}
