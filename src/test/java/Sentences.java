import java.io.IOException;
import java.nio.file.Files;
import java.nio.file.Path;
import java.util.ArrayList;
import java.util.LinkedHashSet;
import java.util.List;
import java.util.Set;

/**
 * Tests that each stand for one sentence of the document: named by the promise's number (TERMS: the section 'Terms')
 * and the sentence's own words. The document is read, so that no sentence can be left out or be quoted wrongly.
 */
final class Sentences {
    static final int TERMS = 0;
    private static final int PROMISES = 35;
    private static final Path DOCUMENT = Path.of("../shared/DOC.md");
    // Sentences of 'Terms' that only say under which heading a call stands in the interface.
    private static final String HEADINGS = "Ahead of the calls ";

    private record Test(int promise, String sentence, Runnable body) {
        String name() {
            return (promise == TERMS ? "Terms" : "Promise " + promise) + ", '" + sentence + "': ";
        }
    }

    private final List<Test> tests = new ArrayList<>();

    void test(int promise, String sentence, Runnable body) {
        tests.add(new Test(promise, sentence, body));
    }

    void run() throws IOException {
        for (Test t : tests) {
            int before = Due.countWrong();
            Due.begin(t.name());
            t.body.run();
            System.out.println(t.name() + (Due.countWrong() == before ? "holds" : "FAILS"));
        }
        Due.begin("");
        isComplete(Files.readString(DOCUMENT));
        System.out.println(tests.size() + " sentences");
    }

    private void isComplete(String document) {
        for (int promise = TERMS; promise <= PROMISES; promise++) {
            Set<String> due = sentences(section(document, promise));
            Set<String> found = new LinkedHashSet<>();
            for (Test t : tests) {
                if (t.promise == promise) {
                    Due.holds("one test for one sentence: " + t.name(), found.add(t.sentence));
                    Due.holds("the document says so: " + t.name(), due.contains(t.sentence));
                }
            }
            for (String sentence : due) {
                Due.holds("promise " + promise + " has a test for: " + sentence, found.contains(sentence));
            }
        }
    }

    /** Of a promise, what stands behind the call; of the terms, all, with the one sentence that limits the calls. */
    private static String section(String document, int promise) {
        String heading = promise == TERMS ? "## Terms\n" : "## Promise " + promise + ": ";
        int start = document.indexOf(heading);
        Due.holds("the document has " + heading, start >= 0);
        int end = document.indexOf("\n## ", start + 1);
        String text = document.substring(start, end);
        if (promise == TERMS) {
            int limit = document.indexOf("An object is used for");
            return document.substring(limit, document.indexOf("\n", limit)) + text.substring(heading.length());
        }
        return text.substring(text.indexOf("`: ") + 3);
    }

    private static Set<String> sentences(String text) {
        Set<String> found = new LinkedHashSet<>();
        for (String line : text.split("\n")) {
            String words = line.trim().replaceFirst("^[0-9]+\\. ", "");
            if (words.isEmpty() || words.startsWith("```") || words.startsWith(HEADINGS)) {
                continue;
            }
            for (String sentence : words.split("(?<=\\.) (?=[A-Z])")) {
                found.add(sentence);
            }
        }
        return found;
    }
}
