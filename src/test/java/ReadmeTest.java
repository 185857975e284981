import java.io.IOException;
import java.nio.file.Files;
import java.nio.file.Path;
import java.util.ArrayList;
import java.util.HashSet;
import java.util.List;
import java.util.Set;
import java.util.regex.Matcher;
import java.util.regex.Pattern;

/**
 * README.md tells the truth: each call in it gives the answer that stands behind it, the document's
 * examples are all there with the document's answers, each call of the face is shown, and each test
 * of the project is named.
 */
public final class ReadmeTest {
    private static final Path README = Path.of("README.md");
    private static final Path DOCUMENT = Path.of("../shared/DOC.md");
    private static final Path TESTS = Path.of("src/test/java");
    private static final String BEGIN = "SparseFactor x = new SparseFactor();";
    private static final Pattern SHOWN = Pattern.compile("x\\.(\\w+\\([^)]*\\)); +// (\\S+)(,.*)?");
    private static final Pattern FACE = Pattern.compile("    public \\w+ (\\w+)\\(.*;");
    private static final int EXAMPLES = 3;

    private static final Checks checks = new Checks();
    /** Each block of the README as a text like that of the document's examples. */
    private static final List<String> blocks = new ArrayList<>();
    private static final Set<String> shown = new HashSet<>();

    public static void main(String[] args) throws IOException {
        readmeCalls();
        documentExamples();
        wholeFace();
        testsNamed();
        checks.end();
    }

    private static void readmeCalls() throws IOException {
        boolean inside = false;
        Script script = null;
        StringBuilder told = new StringBuilder();
        for (String line : Files.readAllLines(README)) {
            if (line.startsWith("```")) {
                inside = line.equals("```java");
                endBlock(told);
                script = null;
            } else if (inside && script == null) {
                checks.due("a block begins", line, BEGIN);
                script = new Script();
            } else if (inside && !line.isBlank()) {
                shownCall(script, line, told);
            }
        }
        checks.due("blocks closed", inside, false);
    }

    private static void endBlock(StringBuilder told) {
        if (told.length() > 0) {
            blocks.add(told.toString());
        }
        told.setLength(0);
    }

    private static void shownCall(Script script, String line, StringBuilder told) {
        Matcher parts = SHOWN.matcher(line);
        if (!parts.matches()) {
            checks.due("a line of README.md", line, "a call with its answer");
            return;
        }
        String call = parts.group(1);
        shown.add(Script.nameOf(call));
        checks.due("README.md: " + call, script.answer(call), parts.group(2));
        told.append(told.length() == 0 ? "" : "; ").append(call).append(" = ")
                .append(parts.group(2));
    }

    /** '  1. What it shows. call = answer; call = answer.' */
    private static void documentExamples() throws IOException {
        int count = 0;
        for (String line : Files.readAllLines(DOCUMENT)) {
            if (line.matches(" +\\d+\\. .*")) {
                count++;
                String calls = line.replaceFirst(" +\\d+\\. [^.]*\\. ", "")
                        .replaceFirst("\\.$", "");
                runExample(calls);
                checks.due("README.md has: " + calls, blocks.contains(calls), true);
            }
        }
        checks.due("examples of the document", count, EXAMPLES);
    }

    private static void runExample(String calls) {
        Script script = new Script();
        for (String part : calls.split("; ")) {
            String[] sides = part.split(" = ");
            checks.due("call and answer: " + part, sides.length, 2);
            if (sides.length == 2) {
                checks.due("an example: " + sides[0], script.answer(sides[0]), sides[1]);
            }
        }
    }

    private static void wholeFace() throws IOException {
        int count = 0;
        for (String line : Files.readAllLines(DOCUMENT)) {
            Matcher parts = FACE.matcher(line);
            if (parts.matches()) {
                String name = parts.group(1);
                count++;
                checks.due("README.md shows " + name, shown.contains(name), true);
            }
        }
        checks.due("methods of the face", count, 36);
    }

    private static void testsNamed() throws IOException {
        String readme = Files.readString(README);
        try (var files = Files.list(TESTS)) {
            for (Path file : files.toList()) {
                String name = file.getFileName().toString().replace(".java", "");
                checks.due("README.md names " + name, readme.contains("`" + name + "`"), true);
            }
        }
    }
}
