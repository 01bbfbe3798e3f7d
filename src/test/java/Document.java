import java.io.IOException;
import java.nio.file.Files;
import java.nio.file.Path;
import java.util.Set;
import java.util.TreeSet;
import java.util.regex.Matcher;
import java.util.regex.Pattern;

/** DOC.md, and its sentences as the tests name them. */
final class Document {
    private static final Path FILE = Path.of("../shared/DOC.md");
    private static final Pattern HEAD = Pattern.compile("## Promise (\\d+): .*");
    private static final Pattern BEHIND_CALL = Pattern.compile("`[^`]*\\)[^`]*`: (.*)");

    private Document() {
    }

    static String text() throws IOException {
        return Files.readString(FILE);
    }

    /** The block of code in which the document lists the face. */
    static String face() throws IOException {
        String text = text();
        String block = text.substring(text.indexOf("```java") + 7);
        return block.substring(0, block.indexOf("```"));
    }

    /** "Terms: " or "Promise n: ", and the words; a heading of the interface is no sentence. */
    static Set<String> sentences() throws IOException {
        Set<String> found = new TreeSet<>();
        String place = "";
        for (String line : text().split("\n")) {
            Matcher head = HEAD.matcher(line);
            if (line.startsWith("## ")) {
                place = line.equals("## Terms") ? "Terms" : head.matches() ? "Promise " + head.group(1) : "";
            } else if (place.equals("Terms") && !line.startsWith("Ahead of the calls ")) {
                addTerms(found, line);
            } else if (!place.isEmpty() && !line.isBlank() && !place.equals("Terms")) {
                found.add(place + ": " + wordsOfPromise(line));
            }
        }
        return found;
    }

    private static void addTerms(Set<String> found, String line) {
        for (String words : line.trim().split("(?<=[.)])\\s+(?=[A-Z(])")) {
            if (!words.isBlank() && !words.equals("Fades.")) {
                found.add("Terms: " + words);
            }
        }
    }

    private static String wordsOfPromise(String line) {
        Matcher call = BEHIND_CALL.matcher(line);
        return call.matches() ? call.group(1) : line.startsWith("- ") ? line.substring(2) : line.trim();
    }
}
