import java.io.IOException;
import java.lang.reflect.Field;
import java.lang.reflect.Method;
import java.lang.reflect.Modifier;
import java.nio.file.Files;
import java.nio.file.Path;
import java.util.List;
import java.util.regex.Pattern;

/**
 * The rules of LANGUAGE.md that a look at the program's text, or at its classes, can tell; run from
 * the project's root.
 */
public final class LanguageTest {
    private static final String[] FORBIDDEN = {"->", "::", "\\btry\\b", "\\bcatch\\b", "\\bfinally\\b",
        "\\bsynchronized\\b", "\\bassert\\b", "\\bprotected\\b", "\\bequals\\b", "\\bhashCode\\b",
        "\\btoString\\b", "\\bString\\.format\\b", "\\bNaN\\b", "Exact\\b", "\\bstatic \\{",
        "\\bSystem\\.(?!arraycopy)", "\\bThread\\b", "\\bObject\\b", "\\+ \"", "\" \\+",
        "throw new (?!IllegalStateException|IllegalArgumentException|IndexOutOfBoundsException)"};
    private static final int LONGEST_METHOD = 60;
    private static final int MOST_CLASSES = 12;
    private static final int MOST_FIELDS = 20;
    private static final int MOST_PARAMETERS = 7;

    private LanguageTest() {
    }

    public static void main(String[] args) throws IOException {
        List<String> lines = Files.readAllLines(Path.of("src/main/java/Daemonsheet.java"));
        int head = 0;
        for (int i = 0; i < lines.size(); i++) {
            String line = lines.get(i);
            String place = "line " + (i + 1);
            for (char sign : line.toCharArray()) {
                Check.due(place + " has a sign beyond 126", sign > 126, false);
            }
            if (line.startsWith("import ")) {
                Check.due(place, line, "import java.util.Arrays;");
            }
            Check.due(place + " has a package", line.startsWith("package "), false);
            if (!line.trim().startsWith("*") && !line.trim().startsWith("/")) {
                checkWords(place, line);
            }
            boolean member = line.matches(" {4}( {4})?[A-Za-z].*");
            head = member ? i : head;
            if (line.matches(" {4}( {4})?}") && !lines.get(head).contains(" class ")) {
                Check.due(place + " ends a method that is too long", i - head >= LONGEST_METHOD, false);
            }
        }
        checkSizes(Daemonsheet.class);
        Check.end();
    }

    private static void checkSizes(Class<?> face) {
        Check.due("too many classes", face.getDeclaredClasses().length >= MOST_CLASSES, false);
        checkSize(face);
        for (Class<?> inner : face.getDeclaredClasses()) {
            checkSize(inner);
        }
    }

    private static void checkSize(Class<?> one) {
        int fields = 0;
        for (Field field : one.getDeclaredFields()) {
            fields += Modifier.isStatic(field.getModifiers()) ? 0 : 1;
        }
        Check.due(one + " has too many fields", fields > MOST_FIELDS, false);
        for (Method method : one.getDeclaredMethods()) {
            Check.due(method + " has too many parameters",
                    method.getParameterCount() > MOST_PARAMETERS, false);
        }
    }

    private static void checkWords(String place, String line) {
        for (String word : FORBIDDEN) {
            Check.due(place + " has " + word, Pattern.compile(word).matcher(line).find(), false);
        }
    }
}
