import java.io.IOException;
import java.lang.reflect.InvocationTargetException;
import java.lang.reflect.Method;
import java.lang.reflect.Modifier;
import java.nio.file.Files;
import java.nio.file.Path;
import java.util.Map;
import java.util.TreeMap;
import java.util.regex.Matcher;
import java.util.regex.Pattern;

/**
 * Runs the tests that are named for sentences of the document: s4_.. for one of its section 4 (1 is all ahead of 2),
 * p09_.. for one of promise 9. Each tells by says() which sentence it is, and that must stand there word by word.
 */
final class Sentences {
    private static final Path DOCUMENT = Path.of("../shared/DOC.md");
    private static final Pattern NAME = Pattern.compile("([sp])0?(\\d+)_\\w+");
    private static final Pattern HEADING = Pattern.compile("## Promise (\\d+):|==== ([2-7])\\.|## Not promised");

    private static Map<String, String> parts = new TreeMap<>();
    private static String part;
    private static boolean said;

    private Sentences() {
    }

    /** The words of the document that the test running now would find broken. */
    static void says(String words) {
        said = true;
        Check.about(part + ", \"" + words + "\": ");
        if (!parts.isEmpty()) {
            Check.due("it stands in the document", parts.getOrDefault(part, "").contains(words), true);
        }
    }

    static void run(Class<?> tests) {
        parts = readParts();
        Map<String, Method> named = new TreeMap<>();
        for (Method method : tests.getDeclaredMethods()) {
            if (NAME.matcher(method.getName()).matches() && Modifier.isStatic(method.getModifiers())) {
                named.put(method.getName(), method);
            }
        }
        for (Method method : named.values()) {
            runOne(method);
        }
        Check.about("");
        Check.end(tests.getName());
    }

    /** How many of the promises from one to another have a test in this class: all must. */
    static void allPromises(Class<?> tests, int from, int to) {
        for (int i = from; i <= to; i++) {
            String prefix = String.format("p%02d_", i);
            boolean has = false;
            for (Method method : tests.getDeclaredMethods()) {
                has |= method.getName().startsWith(prefix);
            }
            Check.due("a test of promise " + i, has, true);
        }
    }

    private static void runOne(Method method) {
        Matcher name = NAME.matcher(method.getName());
        part = name.matches() ? (name.group(1).equals("p") ? "promise " : "section ") + name.group(2) : "";
        said = false;
        Check.about(method.getName() + ": ");
        try {
            method.setAccessible(true);
            method.invoke(null);
        } catch (InvocationTargetException | IllegalAccessException thrown) {
            Check.due("it threw " + thrown.getCause(), true, false);
        }
        Check.about(method.getName() + ": ");
        Check.due("it tells its sentence", said, true);
    }

    /** The document by its parts; none, where it does not lie beside the project. */
    private static Map<String, String> readParts() {
        Map<String, String> found = new TreeMap<>();
        String text;
        try {
            text = Files.readString(DOCUMENT).replaceAll("\\s+", " ");
        } catch (IOException absent) {
            System.out.println("without " + DOCUMENT + " no sentence is looked for");
            return found;
        }
        String name = "section 1";
        int from = 0;
        Matcher heading = HEADING.matcher(text);
        while (heading.find()) {
            found.put(name, text.substring(from, heading.start()));
            name = heading.group(1) != null ? "promise " + heading.group(1) : "section " + heading.group(2);
            from = heading.start();
        }
        return found;
    }
}
