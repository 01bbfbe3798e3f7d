import java.io.IOException;
import java.net.URL;
import java.net.URLClassLoader;
import java.nio.file.Files;
import java.nio.file.Path;
import java.util.ArrayList;
import java.util.List;
import java.util.Set;
import java.util.TreeSet;
import java.util.regex.Matcher;
import java.util.regex.Pattern;
import javax.tools.ToolProvider;

/** README.md tells of every call as the document has it, and its example answers what it says. */
public final class ReadmeTest {
    private static final Due DUE = new Due("ReadmeTest");
    private static final Pattern CALL = Pattern.compile("public int (\\w+)\\((.*)\\)(.*);");
    private static final Pattern ROW = Pattern.compile("\\| `(\\w+\\(.*?\\))` \\|.*\\|([^|]*)\\|");
    private static final Pattern LETTER = Pattern.compile("\\b[NRS]\\b");
    private static final Pattern STEP = Pattern.compile("(?:int (\\w+) = )?(tour\\..*);\\s+// (-?\\d+): .*");

    private ReadmeTest() {
    }

    public static void main(String[] args) throws Exception {
        String text = Files.readString(Path.of("README.md"));
        DUE.is("calls", callsOf(text), dueCalls());
        example(text);
        DUE.end();
    }

    /** Each call with the names of its arguments, and a letter for each exception. */
    private static Set<String> dueCalls() throws IOException {
        Set<String> found = new TreeSet<>();
        for (String line : Document.face().split("\n")) {
            Matcher call = CALL.matcher(line.trim());
            if (call.matches()) {
                String names = call.group(2).replaceAll("(int|boolean) ", "");
                found.add(call.group(1) + "(" + names + ") " + lettersOfThrows(call.group(3)));
            }
        }
        return found;
    }

    private static String lettersOfThrows(String clause) {
        String letters = clause.contains("IndexOutOfBounds") ? "N" : "";
        letters += clause.contains("IllegalArgument") ? "R" : "";
        return letters + (clause.contains("IllegalState") ? "S" : "");
    }

    private static Set<String> callsOf(String text) {
        Set<String> found = new TreeSet<>();
        for (String line : text.split("\n")) {
            Matcher row = ROW.matcher(line);
            if (row.matches()) {
                StringBuilder letters = new StringBuilder();
                LETTER.matcher(row.group(2)).results().forEach(each -> letters.append(each.group()));
                DUE.is(row.group(1) + " is told once", found.add(row.group(1) + " " + letters), true);
            }
        }
        return found;
    }

    private static void example(String text) throws Exception {
        String block = text.substring(text.indexOf("```java") + 7);
        List<String> body = new ArrayList<>();
        List<String> asked = new ArrayList<>();
        List<Integer> due = new ArrayList<>();
        for (String line : block.substring(0, block.indexOf("```")).split("\n")) {
            Matcher step = STEP.matcher(line);
            if (!step.matches()) {
                body.add(line);
                continue;
            }
            String name = step.group(1);
            body.add(name == null ? "" : line);
            body.add("answers.add(" + (name == null ? step.group(2) : name) + ");");
            asked.add(step.group(2));
            due.add(Integer.valueOf(step.group(3)));
        }
        List<?> got = run(body);
        DUE.is("answers of the example", got.size(), due.size());
        for (int i = 0; i < got.size(); i++) {
            DUE.is(asked.get(i), got.get(i), due.get(i));
        }
    }

    private static List<?> run(List<String> body) throws Exception {
        Path place = Files.createTempDirectory("readme");
        Path source = place.resolve("Example.java");
        Files.writeString(source, "public final class Example { public static java.util.List<Integer> answers() {\n"
                + "java.util.List<Integer> answers = new java.util.ArrayList<>();\n"
                + String.join("\n", body) + "\nreturn answers; } }\n");
        String classes = System.getProperty("java.class.path");
        int failed = ToolProvider.getSystemJavaCompiler().run(null, null, null, "-cp", classes,
                "-d", place.toString(), source.toString());
        DUE.is("compiling the example", failed, 0);
        try (URLClassLoader loader = new URLClassLoader(new URL[] {place.toUri().toURL()})) {
            return (List<?>) loader.loadClass("Example").getMethod("answers").invoke(null);
        } finally {
            for (String name : List.of("Example.class", "Example.java", "")) {
                Files.deleteIfExists(place.resolve(name));
            }
        }
    }
}
