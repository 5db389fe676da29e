import java.io.IOException;
import java.lang.reflect.InvocationTargetException;
import java.lang.reflect.Method;
import java.nio.file.Path;
import java.util.ArrayList;
import java.util.Arrays;
import java.util.Comparator;
import java.util.HashSet;
import java.util.List;
import java.util.Set;
import java.util.regex.Matcher;
import java.util.regex.Pattern;

/**
 * Makes each test that bears a sentence of the document, and looks whether any word of the document
 * is left without one. A test's name begins with its promise's number; each is told with its name
 * and its sentence. Run from the project's root.
 */
public final class SentenceTest {
    private static final Class<?>[] TESTS = {
        FormulaSentences.class, CellSentences.class, ServiceSentences.class, RoundSentences.class,
        TextSentences.class, CellStepSentences.class, ServiceStepSentences.class,
        TimeSentences.class, QuestionSentences.class, TrialSentences.class,
    };

    // Titles, and words that no call can break.
    private static final String[] WITHOUT_EDGE = {
        "# Daemonsheet", "## What it is", "## The public face", "## Terms", "### Formulas",
        "### Cells", "### Services", "### Rounds", "### Steps",
        "A table of cells and a table of services in one:", "what later calls answer is free.",
        "The constants:",
        "Ahead of the calls `type`, `wipe`, `fault` the interface says: ---- the text.",
        "Ahead of the calls `formula`, `hold`, `release`, `read`, `control`, `limit`, `demand`, "
            + "`need`, `lie`, `mend`, `tick`, `undo` the interface says: ---- steps;",
        "Ahead of the calls `steps`, `now`, `value`, `valueAnew`, `worth`, `depth`, `isStale`, "
            + "`work`, `state`, `load`, `told`, `starts`, `trial`, `isLoop` the interface says: "
            + "---- questions.",
    };

    private final Doc doc = new Doc(Path.of("../shared/DOC.md"));
    private final List<List<String>> held = new ArrayList<>();
    private final Set<String> names = new HashSet<>();

    private SentenceTest() throws IOException {
        for (int i = 0; i <= Doc.PROMISES; i++) {
            held.add(new ArrayList<>());
        }
    }

    public static void main(String[] args) throws IOException, IllegalAccessException {
        SentenceTest test = new SentenceTest();
        int tests = 0;
        for (Class<?> part : TESTS) {
            Method[] methods = part.getDeclaredMethods();
            Arrays.sort(methods, Comparator.comparing(Method::getName));
            for (Method method : methods) {
                if (method.isAnnotationPresent(Sentence.class)) {
                    test.make(method);
                    tests++;
                }
            }
        }
        test.checkFace();
        test.checkNoneIsLeft();
        System.out.println(tests + " sentences have a test");
        Check.end();
    }

    private void make(Method method) throws IllegalAccessException {
        Sentence sentence = method.getAnnotation(Sentence.class);
        String name = method.getName() + " (promise " + sentence.promise() + ": " + sentence.says() + ")";
        int wrong = Check.wrong();
        Check.in(name);
        Check.due("the name has the promise's number",
                method.getName().startsWith(String.format("p%02d_", sentence.promise())), true);
        Check.due("no other test has the name", names.add(method.getName()), true);
        String where = sentence.ahead() ? doc.ahead() : doc.promise(sentence.promise());
        Check.due("the words stand in the document", where.contains(sentence.says()), true);
        held.get(sentence.ahead() ? 0 : sentence.promise()).add(sentence.says());
        int looked = Check.looked();
        String thrown = "nothing";
        try {
            method.setAccessible(true);
            method.invoke(null);
        } catch (InvocationTargetException e) {
            thrown = e.getCause().toString();
        }
        Check.due("what the test throws", thrown, "nothing");
        Check.due("it looks at an answer", Check.looked() > looked, true);
        System.out.println((Check.wrong() == wrong ? "holds: " : "DOES NOT HOLD: ") + name);
    }

    // ---- the block of the class's face

    private void checkFace() {
        Check.in("the face");
        for (String line : doc.face) {
            Matcher call = Pattern.compile("public (\\w+ )?(\\w+)\\((.*?)\\)( throws (.*))?;")
                    .matcher(line);
            if (call.matches() && call.group(1) != null) {
                Check.due(line, told(call.group(2)), call.group(1) + call.group(2)
                        + typesOf(call.group(3)) + (call.group(5) == null ? "" : call.group(5)));
            }
        }
    }

    private static String typesOf(String parameters) {
        return "(" + parameters.replaceAll(" \\w+(, |$)", "$1") + ")";
    }

    private static String told(String name) {
        StringBuilder told = new StringBuilder();
        for (Method method : Daemonsheet.class.getMethods()) {
            if (method.getName().equals(name)) {
                List<String> types = new ArrayList<>();
                for (Class<?> type : method.getParameterTypes()) {
                    types.add(type.getSimpleName());
                }
                List<String> thrown = new ArrayList<>();
                for (Class<?> type : method.getExceptionTypes()) {
                    thrown.add(type.getSimpleName());
                }
                told.append(method.getReturnType()).append(' ').append(name);
                told.append('(').append(String.join(", ", types)).append(')');
                told.append(String.join(", ", thrown));
            }
        }
        return told.toString();
    }

    // ---- no sentence without a test

    private void checkNoneIsLeft() {
        Check.in("words without a test ahead of the promises");
        Check.due("what is left", left(doc.ahead(), held.get(0)), "");
        for (int i = 1; i <= Doc.PROMISES; i++) {
            Check.in("words without a test in promise " + i);
            String promise = doc.promise(i).replaceFirst("## Promise \\d+: (A new object|\\w+)", "");
            for (String line : doc.face) {
                // The line of the face, which was looked at above.
                String call = line.replaceFirst("public ", "").replaceFirst(";.*", "");
                promise = call.isEmpty() ? promise : promise.replace("`" + call + "`:", "");
            }
            Check.due("what is left", left(promise, held.get(i)), "");
        }
        Check.in("the words behind the promises");
        Check.due("they promise nothing", doc.behind().startsWith(" ## Not promised"), true);
    }

    private static String left(String text, List<String> held) {
        List<String> all = new ArrayList<>(held);
        all.addAll(Arrays.asList(WITHOUT_EDGE));
        // The longer ones first, since one may stand in another one.
        all.sort(Comparator.comparing(String::length).reversed());
        String left = text;
        for (String words : all) {
            left = left.replace(words, " ~ ");
        }
        left = left.replaceAll("\\s+", " ");
        return left.replaceAll("[^A-Za-z0-9]", "").isEmpty() ? "" : left;
    }
}
