import java.io.IOException;
import java.nio.file.Files;
import java.nio.file.Path;
import java.util.ArrayList;
import java.util.List;
import java.util.regex.Matcher;
import java.util.regex.Pattern;

/** The class's own lines, compared with the document's: the public face, the signatures, the groups of calls. */
final class FaceEdges {
    private static final Path PROGRAM = Path.of("src/main/java/SmokeWard.java");
    private static final Pattern CALL = Pattern.compile("(?m)^    public \\w+ (\\w+)\\(");
    private static final String HEAD = "public final class SmokeWard {";

    private final Sentences sentences;
    private final Check check;
    private final String program;
    private final String inOneLine;
    private final List<String> members = new ArrayList<>();

    FaceEdges(Sentences sentences) throws IOException {
        this.sentences = sentences;
        check = sentences.check;
        program = Files.readString(PROGRAM);
        inOneLine = program.replaceAll("\\s+", " ");
    }

    void all() {
        theFace();
        signatures();
        groups();
        sentences.in("What it is");
        sentences.leave("A service for smoke of wildfires: cells with fuel and fire, smoke that the wind carries, "
            + "sensors that mend what is reckoned as far as they are trusted and are left out and taken back by their "
            + "neighbours, warnings by place, bound and hours that are sent once, schools that close by forecasts, "
            + "crews that dig lines.");
        sentences.in("Not promised");
        sentences.leave("How the state is held inside the object is free, as are the speed of each call, "
            + "the text of toString and the behaviour of equals and hashCode. Use of one object from several threads "
            + "at once is not promised to be safe. Nothing is promised beyond the answers and state changes described "
            + "above, and nothing about an object after its 512th call.");
    }

    private void theFace() {
        sentences.in("The public face");
        String face = sentences.text();
        sentences.hold(face, () -> {
            Matcher block = Pattern.compile("```java \\Q" + HEAD + "\\E (.*;) } ```").matcher(face);
            check.yes("is one block", block.matches());
            members.addAll(List.of(block.group(1).split("(?<=;) ")));
            check.yes("the class", inOneLine.contains(" " + HEAD + " "));
            int last = 0;
            for (String member : members) {
                int at = inOneLine.indexOf(" " + member.replace(";", " {"));
                check.yes(member + " stands there, behind the one ahead of it", at > last);
                last = at;
            }
            check.same("what is public", program.split("\\bpublic\\b", -1).length - 1, members.size() + 1);
            check.no("protected", program.contains("protected"));
        });
    }

    /** The promises stand in the face's order, each with its line of the face. */
    private void signatures() {
        int number = 0;
        for (String member : members) {
            number++;
            String name = member.replaceFirst("\\(.*", "").replaceFirst(".* ", "");
            String signature = "`" + member.replaceFirst("^public ", "").replace(";", "") + "`:";
            sentences.in("Promise " + number + ": " + (number == 1 ? "A new object" : name));
            // The document tells no signature there.
            if (!name.equals("isKept")) {
                sentences.hold(signature, () -> check.yes("is at its beginning", sentences.text().startsWith(signature)));
            }
        }
        check.same("promises", number, sentences.count("Promise .*"));
    }

    private void groups() {
        sentences.in("Terms");
        group("the land", "setFuel", "light", "setWind", "setRain", "digLine");
        group("sensors", "addSensor", "read", "trust", "stateOf", "judged");
        group("warnings", "subscribe", "addSchool", "isOpen", "isWarned");
        group("hours", "pass", "hour");
        group("what there is", "fuel", "fire", "smoke", "hasLine", "left", "forecast", "worst");
        group("records", "warnings", "warnedAt", "warnedWhom", "warnedBy", "closings", "made", "blown", "settled",
            "mended", "trustShare", "meanSmoke", "isKept", "isSame");
    }

    private void group(String heading, String... names) {
        String words = "Ahead of the calls `" + String.join("`, `", names) + "` the interface says: ---- " + heading + ".";
        sentences.hold(words, () -> {
            Matcher part = Pattern.compile("(?s)    // ---- \\Q" + heading + "\\E\n(.*?)(    // ---- |\\z)").matcher(program);
            check.yes("has this line", part.find());
            List<String> behind = new ArrayList<>();
            Matcher call = CALL.matcher(part.group(1));
            while (call.find()) {
                behind.add(call.group(1));
            }
            check.same("the calls behind it", behind.toString(), List.of(names).toString());
        });
    }
}
