import java.io.IOException;
import java.lang.reflect.InvocationTargetException;
import java.lang.reflect.Method;
import java.nio.file.DirectoryStream;
import java.nio.file.Files;
import java.nio.file.Path;
import java.util.List;
import java.util.regex.Matcher;
import java.util.regex.Pattern;

/**
 * Makes the run of calls that README.md shows, and looks whether each answers what stands behind it;
 * and whether README.md names each test. Run from the project's root.
 */
public final class ReadmeTest {
    // A call, and behind it an answer, and behind that perhaps a colon and a reason.
    private static final Pattern CALL =
            Pattern.compile("sheet\\.(\\w+)\\((.*)\\);\\s+// (throws \\w+|-?\\w+)(: .+)?");

    private final Daemonsheet sheet = new Daemonsheet();
    private int calls = 0;

    private ReadmeTest() {
    }

    public static void main(String[] args) throws IOException, IllegalAccessException {
        List<String> lines = Files.readAllLines(Path.of("README.md"));
        ReadmeTest test = new ReadmeTest();
        boolean inRun = false;
        for (String line : lines) {
            if (line.startsWith("```")) {
                inRun = line.equals("```java");
            } else if (inRun && line.startsWith("sheet.")) {
                test.make(line);
            } else if (inRun) {
                boolean known = line.isEmpty() || line.startsWith("// ")
                        || line.equals("Daemonsheet sheet = new Daemonsheet();");
                Check.due("a line of the run is a call or a remark: " + line, known, true);
            }
        }
        Check.due("there is a run of calls", test.calls > 0, true);
        checkTestsAreNamed(String.join("\n", lines));
        Check.end();
    }

    private void make(String line) throws IllegalAccessException {
        calls++;
        Matcher call = CALL.matcher(line);
        Check.due("the line has an answer: " + line, call.matches(), true);
        if (call.matches()) {
            Check.due("README's call " + calls + ", " + line, answer(call.group(1), call.group(2)),
                    call.group(3));
        }
    }

    private String answer(String name, String told) throws IllegalAccessException {
        String[] words = told.isEmpty() ? new String[0] : told.split(", ");
        for (Method method : Daemonsheet.class.getDeclaredMethods()) {
            if (method.getName().equals(name) && method.getParameterCount() == words.length) {
                Object[] arguments = new Object[words.length];
                for (int i = 0; i < words.length; i++) {
                    arguments[i] = argument(words[i]);
                }
                try {
                    return String.valueOf(method.invoke(sheet, arguments));
                } catch (InvocationTargetException e) {
                    return "throws " + e.getCause().getClass().getSimpleName();
                }
            }
        }
        return "no such call";
    }

    private static Object argument(String word) {
        if (word.matches("'.'")) {
            return word.charAt(1);
        }
        if (word.equals("true") || word.equals("false")) {
            return Boolean.valueOf(word);
        }
        return Integer.valueOf(word);
    }

    private static void checkTestsAreNamed(String readme) throws IOException {
        try (DirectoryStream<Path> files =
                Files.newDirectoryStream(Path.of("src/test/java"), "*Test.java")) {
            for (Path file : files) {
                String name = file.getFileName().toString().replace(".java", "");
                Check.due("README.md names " + name, readme.contains("- `" + name + "`"), true);
            }
        }
    }
}
