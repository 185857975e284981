import java.io.IOException;
import java.nio.file.Files;
import java.nio.file.Path;
import java.util.ArrayList;
import java.util.LinkedHashMap;
import java.util.List;
import java.util.Map;

/**
 * Tests of the document's sentences, one by one. Each test quotes its sentence; under the headings
 * that a test class takes upon itself no sentence may be left without a test, and none may be
 * quoted that does not stand there.
 */
final class Sentences {
    private static final Path DOCUMENT = Path.of("../shared/DOC.md");

    private final Checks checks = new Checks();
    private final List<String> lines;
    private final Map<String, List<String>> waiting = new LinkedHashMap<>();
    private String heading = "";
    private String words = "";

    Sentences() throws IOException {
        lines = Files.readAllLines(DOCUMENT);
    }

    /** Takes up the sentences under a heading, which is given by how it begins. */
    void under(String start) {
        heading = start;
        waiting.put(start, sentencesUnder(start));
        checks.due("sentences under " + start, waiting.get(start).isEmpty(), false);
    }

    void test(String quoted, Runnable body) {
        words = quoted;
        checks.due(label("stands in the document"), waiting.get(heading).remove(quoted), true);
        try {
            body.run();
        } catch (RuntimeException e) {
            checks.due(label("the test"), "throws." + e.getClass().getSimpleName(), "an end");
        }
    }

    /** For a sentence that only says in short what others say. */
    void saidByOthers(String quoted) {
        words = quoted;
        checks.due(label("stands in the document"), waiting.get(heading).remove(quoted), true);
    }

    void due(String call, long got, long want) {
        checks.due(label(call), got, want);
    }

    void due(String call, boolean got, boolean want) {
        checks.due(label(call), got, want);
    }

    void due(String call, String got, String want) {
        checks.due(label(call), got, want);
    }

    void refused(String call, Class<? extends RuntimeException> want, Checks.Call made) {
        checks.dueThrow(label(call), want, made);
    }

    void taken(String call, Checks.Call made) {
        String got = Checks.outcome(made);
        checks.due(label(call), got.startsWith("throws.") ? got : "taken", "taken");
    }

    void end() {
        for (Map.Entry<String, List<String>> e : waiting.entrySet()) {
            for (String left : e.getValue()) {
                checks.due(e.getKey() + ": '" + left + "'", "no test", "a test of its own");
            }
        }
        checks.end();
    }

    private String label(String call) {
        return heading + ": '" + words + "': " + call;
    }

    private List<String> sentencesUnder(String start) {
        List<String> found = new ArrayList<>();
        boolean inside = false;
        for (String line : lines) {
            if (line.startsWith("## ")) {
                String title = line.substring(3);
                inside = title.equals(start) || title.startsWith(start + ":");
            } else if (inside && isProse(line.trim())) {
                addSentences(line.trim(), found);
            }
        }
        return found;
    }

    /** Signatures, parameters, the names of groups and the examples have tests of their own. */
    private static boolean isProse(String line) {
        return !line.isEmpty() && !line.matches("(`|- `|----|Examples:|\\d+\\. ).*")
                && !line.startsWith("The constructor and the methods follow");
    }

    private static void addSentences(String line, List<String> found) {
        for (String part : line.split("(?<=[a-z0-9)]\\.) +(?=[A-Z0-9]|p(ush|op) )")) {
            boolean isTitle = part.matches("\\w+\\.");
            if (!isTitle) {
                found.add(part);
            }
        }
    }
}
