import java.io.IOException;
import java.nio.file.DirectoryStream;
import java.nio.file.Files;
import java.nio.file.Path;
import java.util.ArrayList;
import java.util.Arrays;
import java.util.List;
import java.util.Set;
import java.util.TreeSet;
import java.util.regex.Matcher;
import java.util.regex.Pattern;

/** What README.md says of the class is tried on the class, and its tables are compared with what there is. */
public final class ReadmeTest {
    private static final String MAKING = "PoorDesk desk = new PoorDesk();";
    private static final Pattern LINE = Pattern.compile("(?:int (\\w+) = )?desk\\.(\\w+\\(.*?\\)); +// (-?\\d+)(?:: .*)?");
    private static final Pattern PROMISE = Pattern.compile("(?m)^`int (\\w+\\([^)]*\\))`: (.*)$");
    private static final Pattern FINDING =
            Pattern.compile("(?<=\\. )(BEYOND|MISSING|SIZE|KIND|FULL|NONE|RING|LATE)(?=[ :.])");
    private static final int MORE_THAN_MAY_BE = 30;
    // Below it are the findings.
    private static final int LEAST_ANSWER = -99999;

    private final String page;
    private final String document;

    private ReadmeTest(String page, String document) {
        this.page = page;
        this.document = document;
    }

    public static void main(String[] args) throws IOException {
        ReadmeTest test = new ReadmeTest(Files.readString(Path.of("README.md")),
                Files.readString(Path.of("../shared/DOC.md")));
        test.examples();
        test.findings();
        test.numbers();
        test.anyNumbers();
        test.mostOfAll();
        test.calls();
        test.tests(Path.of("src/test/java"));
        Due.end();
    }

    private void examples() {
        Spoken desk = new Spoken();
        for (String block : blocks(page)) {
            desk = run(block, desk);
        }
        Due.holds("the page has examples", blocks(page).size() > 2);
    }

    private static List<String> blocks(String text) {
        List<String> found = new ArrayList<>();
        Matcher m = Pattern.compile("(?s)```java\n(.*?)```").matcher(text);
        while (m.find()) {
            found.add(m.group(1));
        }
        return found;
    }

    /** The calls of a block, on a new desk if it makes one, else on the one that the block above it left. */
    private static Spoken run(String block, Spoken before) {
        Spoken desk = before;
        for (String line : block.split("\n")) {
            Matcher m = LINE.matcher(line);
            if (line.equals(MAKING)) {
                desk = new Spoken();
            } else if (m.matches()) {
                int answer = desk.call(m.group(2));
                Due.is("README.md: " + line, answer, Integer.parseInt(m.group(3)));
                if (m.group(1) != null) {
                    desk.name(m.group(1), answer);
                }
            } else {
                Due.holds("a call with its answer: " + line, false);
            }
        }
        return desk;
    }

    private void findings() {
        List<String[]> rows = rows("| answer | finding |");
        String[] names = {"BEYOND", "MISSING", "SIZE", "KIND", "FULL", "NONE", "RING", "LATE"};
        Due.is("rows of findings", rows.size(), names.length);
        for (int i = 0; i < Math.min(rows.size(), names.length); i++) {
            Due.holds("the finding " + names[i], rows.get(i)[1].equals(names[i]));
            Due.is("README.md: " + names[i], Integer.parseInt(rows.get(i)[0]), Due.BEYOND - i);
        }
    }

    /** A desk as the page makes it for its tables of numbers. */
    private Spoken ready() {
        String section = page.substring(page.indexOf("## What numbers may be"));
        return run(blocks(section).get(0), null);
    }

    private int ready(String call, int v) {
        Spoken desk = ready();
        desk.name("v", v);
        return desk.call(call);
    }

    private void numbers() {
        List<String[]> rows = rows("| number | from | to |");
        Due.holds("a table of numbers", rows.size() > 30);
        for (String[] row : rows) {
            int least = Integer.parseInt(row[1]);
            int most = Integer.parseInt(row[2]);
            String call = row[3];
            Due.holds(call + ", v " + least + " is not BEYOND", ready(call, least) != Due.BEYOND);
            Due.holds(call + ", v " + most + " is not BEYOND", ready(call, most) != Due.BEYOND);
            int below = call.equals("sheet(0, 8, v)") ? Due.SIZE : Due.BEYOND;
            Due.is(call + ", v " + (least - 1), ready(call, least - 1), below);
            Due.is(call + ", v " + (most + 1), ready(call, most + 1), Due.BEYOND);
        }
    }

    private void anyNumbers() {
        List<String[]> rows = rows("| any number |");
        Due.holds("a table of any numbers", rows.size() > 5);
        for (String[] row : rows) {
            for (int v : new int[] {Due.LEAST, -1, 0, 10001, Due.MOST}) {
                Due.holds(row[1] + ", v " + v + " is taken", ready(row[1], v) >= LEAST_ANSWER);
            }
        }
    }

    private void mostOfAll() {
        Spoken desk = ready();
        List<String[]> rows = rows("| what | at most |");
        Due.is("rows of what may be full", rows.size(), 6);
        for (String[] row : rows) {
            int answer = 0;
            for (int v = 0; v < MORE_THAN_MAY_BE && answer != Due.FULL; v++) {
                desk.name("v", v);
                answer = desk.call(row[2]);
            }
            Due.is(row[2] + " at last", answer, Due.FULL);
            Due.is(row[3], desk.call(row[3]), Integer.parseInt(row[1]));
        }
    }

    private void calls() {
        List<String[]> rows = rows("| call |");
        Matcher promise = PROMISE.matcher(document);
        int at = 0;
        while (promise.find()) {
            String call = promise.group(1).replaceAll("(int|boolean) ", "");
            boolean isThere = at < rows.size() && rows.get(at)[0].equals(call);
            Due.holds("row " + at + " of the calls is " + call, isThere);
            if (isThere) {
                String due = findingsOf(promise.group(2));
                Due.holds("the findings of " + call + " are " + due, rows.get(at)[2].equals(due));
            }
            at++;
        }
        Due.is("rows of calls", rows.size(), at);
    }

    private static String findingsOf(String words) {
        List<String> found = new ArrayList<>();
        Matcher m = FINDING.matcher(words);
        while (m.find()) {
            found.add(m.group(1));
        }
        return String.join(", ", found);
    }

    private void tests(Path directory) throws IOException {
        Set<String> named = new TreeSet<>();
        for (String[] row : rows("| test |")) {
            named.add(row[0]);
        }
        try (DirectoryStream<Path> files = Files.newDirectoryStream(directory, "*Test.java")) {
            for (Path file : files) {
                String name = file.getFileName().toString().replace(".java", "");
                Due.holds("the page says what " + name + " tests", named.contains(name));
            }
        }
        for (String name : named) {
            Due.holds("the page names a test that there is: " + name, !name.endsWith("Test")
                    || Files.exists(directory.resolve(name + ".java")));
        }
    }

    /** The rows of a table, known by how its first line begins, each as its cells, without the signs of code. */
    private List<String[]> rows(String head) {
        List<String[]> found = new ArrayList<>();
        int start = page.indexOf("\n" + head);
        Due.holds("the page has a table " + head, start >= 0);
        String[] lines = start < 0 ? new String[0] : page.substring(start + 1).split("\n");
        for (int i = 2; i < lines.length && lines[i].startsWith("|"); i++) {
            String inside = lines[i].substring(1, lines[i].lastIndexOf('|'));
            found.add(Arrays.stream(inside.split("\\|", -1)).map(c -> c.replace("`", "").trim()).toArray(String[]::new));
        }
        return found;
    }
}
