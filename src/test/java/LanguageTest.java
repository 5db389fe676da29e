import java.io.IOException;
import java.nio.file.Files;
import java.nio.file.Path;
import java.util.List;
import java.util.regex.Pattern;

/** The rules of LANGUAGE.md that a look at the program's text can tell; run from the project's root. */
public final class LanguageTest {
    private static final String[] FORBIDDEN = {"->", "::", "\\btry\\b", "\\bcatch\\b", "\\bfinally\\b",
        "\\bsynchronized\\b", "\\bassert\\b", "\\bprotected\\b", "\\bequals\\b", "\\bhashCode\\b",
        "\\btoString\\b", "\\bString\\.format\\b", "\\bNaN\\b", "Exact\\b", "\\bstatic \\{",
        "\\bSystem\\.(?!arraycopy)", "\\bThread\\b", "\\bObject\\b", "\\+ \"", "\" \\+",
        "throw new (?!IllegalStateException|IllegalArgumentException|IndexOutOfBoundsException)"};
    private static final int LONGEST_METHOD = 60;

    private LanguageTest() {
    }

    public static void main(String[] args) throws IOException {
        List<String> lines = Files.readAllLines(Path.of("src/main/java/Daemonsheet.java"));
        int head = 0;
        for (int i = 0; i < lines.size(); i++) {
            String line = lines.get(i);
            String place = "line " + (i + 1);
            for (char sign : line.toCharArray()) {
                Check.due(place + " has a sign beyond 126", sign > 126, false);
            }
            if (line.startsWith("import ")) {
                Check.due(place, line, "import java.util.Arrays;");
            }
            Check.due(place + " has a package", line.startsWith("package "), false);
            if (!line.trim().startsWith("*") && !line.trim().startsWith("/")) {
                checkWords(place, line);
            }
            boolean member = line.matches(" {4}( {4})?[A-Za-z].*");
            head = member ? i : head;
            if (line.matches(" {4}( {4})?}") && !lines.get(head).contains(" class ")) {
                Check.due(place + " ends a method that is too long", i - head >= LONGEST_METHOD, false);
            }
        }
        Check.end();
    }

    private static void checkWords(String place, String line) {
        for (String word : FORBIDDEN) {
            Check.due(place + " has " + word, Pattern.compile(word).matcher(line).find(), false);
        }
    }
}
