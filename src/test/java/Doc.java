import java.io.IOException;
import java.nio.file.Files;
import java.nio.file.Path;
import java.util.ArrayList;
import java.util.Arrays;
import java.util.List;
import java.util.regex.Matcher;
import java.util.regex.Pattern;

/** The document, cut up by promises; each line end and each row of blanks is one blank. */
final class Doc {
    static final int PROMISES = 30;

    final List<String> face = new ArrayList<>();
    // In front of the first promise at 0, each promise at its number, what follows them behind.
    private final String[] parts = new String[PROMISES + 2];

    Doc(Path path) throws IOException {
        Arrays.fill(parts, "");
        int part = 0;
        boolean inFace = false;
        for (String line : Files.readAllLines(path)) {
            if (line.startsWith("```")) {
                inFace = line.equals("```java");
                continue;
            }
            if (inFace) {
                face.add(line.trim());
                continue;
            }
            Matcher heading = Pattern.compile("## Promise (\\d+): .*").matcher(line);
            if (heading.matches()) {
                part = Integer.parseInt(heading.group(1));
            } else if (line.startsWith("## ") && part == PROMISES) {
                part = PROMISES + 1;
            }
            parts[part] = (parts[part] + " " + line).replaceAll("\\s+", " ");
        }
    }

    String ahead() {
        return parts[0];
    }

    String promise(int number) {
        return parts[number];
    }

    String behind() {
        return parts[PROMISES + 1];
    }
}
