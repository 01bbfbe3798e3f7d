import java.lang.reflect.Constructor;
import java.lang.reflect.Field;
import java.lang.reflect.Method;
import java.lang.reflect.Modifier;
import java.nio.file.Files;
import java.nio.file.Path;
import java.util.Arrays;
import java.util.Set;
import java.util.TreeSet;
import java.util.regex.Matcher;
import java.util.regex.Pattern;
import java.util.stream.Collectors;

/** The public face is that of the document, and nothing else can be seen of the class. */
public final class FaceTest {
    private static final Due DUE = new Due("FaceTest");

    private static final Pattern HEADING =
            Pattern.compile("Ahead of the calls (.*) the interface says: (---- .*)\\.");
    private static final Pattern PUBLIC_CALL = Pattern.compile("    public int (\\w+)\\(");

    private FaceTest() {
    }

    public static void main(String[] args) throws Exception {
        methods();
        members();
        headings();
        DUE.end();
    }

    /** The methods of the document's block of code, as reflection would tell them. */
    private static Set<String> due() throws Exception {
        Set<String> found = new TreeSet<>();
        for (String line : Document.face().split("\n")) {
            if (line.contains("(") && !line.contains("CueTour()")) {
                found.add(parsed(line.trim()));
            }
        }
        return found;
    }

    private static String parsed(String line) {
        String head = line.substring(0, line.indexOf('('));
        String inside = line.substring(line.indexOf('(') + 1, line.indexOf(')'));
        String types = inside.isEmpty() ? "" : Arrays.stream(inside.split(","))
                .map(each -> each.trim().split(" ")[0]).collect(Collectors.joining(","));
        String behind = line.substring(line.indexOf(')') + 1).replace("throws", "").replace(";", "");
        return head + "(" + types + ")" + behind.replace(" ", "");
    }

    private static String told(Method method) {
        String types = Arrays.stream(method.getParameterTypes()).map(Class::getSimpleName)
                .collect(Collectors.joining(","));
        String thrown = Arrays.stream(method.getExceptionTypes()).map(Class::getSimpleName)
                .collect(Collectors.joining(","));
        return Modifier.toString(method.getModifiers()) + " " + method.getReturnType().getSimpleName()
                + " " + method.getName() + "(" + types + ")" + thrown;
    }

    private static void methods() throws Exception {
        Set<String> got = new TreeSet<>();
        Set<String> names = new TreeSet<>();
        for (Method method : CueTour.class.getDeclaredMethods()) {
            if (!Modifier.isPrivate(method.getModifiers())) {
                got.add(told(method));
                names.add(method.getName());
            }
        }
        DUE.is("methods", got, due());
        DUE.is("how many", got.size(), 35);
        for (Method method : CueTour.class.getDeclaredMethods()) {
            if (Modifier.isPrivate(method.getModifiers())) {
                DUE.is(method.getName() + " is a public name too", names.contains(method.getName()), false);
            }
        }
    }

    private static void members() throws Exception {
        DUE.is("class", Modifier.toString(CueTour.class.getModifiers()), "public final");
        DUE.is("package", CueTour.class.getPackageName(), "");
        DUE.is("what it extends", CueTour.class.getSuperclass(), Object.class);
        DUE.is("what it implements", CueTour.class.getInterfaces().length, 0);
        Constructor<?>[] constructors = CueTour.class.getDeclaredConstructors();
        DUE.is("constructors", constructors.length, 1);
        DUE.is("the constructor", constructors[0].toString(), "public CueTour()");
        for (Field field : CueTour.class.getDeclaredFields()) {
            boolean isConstant = field.getName().equals("NONE");
            DUE.is(field + " is hidden", Modifier.isPrivate(field.getModifiers()), !isConstant);
        }
        DUE.is("NONE", CueTour.class.getField("NONE").toGenericString(), "public static final int CueTour.NONE");
        for (Class<?> inside : CueTour.class.getDeclaredClasses()) {
            DUE.is(inside + " is static", Modifier.isStatic(inside.getModifiers()), true);
            DUE.is(inside + " is public", Modifier.isPublic(inside.getModifiers()), false);
            DUE.is(inside + " is protected", Modifier.isProtected(inside.getModifiers()), false);
        }
    }

    /** "Ahead of the calls ... the interface says": each call stands under its heading. */
    private static void headings() throws Exception {
        String source = Files.readString(Path.of("src/main/java/CueTour.java"));
        int asked = 0;
        for (String line : Document.text().split("\n")) {
            Matcher heading = HEADING.matcher(line);
            if (heading.matches()) {
                DUE.is(heading.group(2), callsUnder(heading.group(2), source), heading.group(1).replace("`", ""));
                asked++;
            }
        }
        DUE.is("headings", asked, 4);
    }

    private static String callsUnder(String heading, String source) {
        String mark = "    // " + heading + "\n";
        DUE.is(heading + " stands there", source.contains(mark), true);
        String behind = source.substring(source.indexOf(mark) + mark.length());
        String section = behind.substring(0, behind.indexOf("    // ----"));
        return PUBLIC_CALL.matcher(section).results().map(each -> each.group(1))
                .collect(Collectors.joining(", "));
    }
}
