import java.io.IOException;
import java.nio.file.Files;
import java.nio.file.Path;
import java.util.regex.Matcher;
import java.util.regex.Pattern;

/** The rules of LANGUAGE.md that can be seen in the text of the program. */
public final class LanguageTest {
    private static final Path SOURCE = Path.of("src/main/java/PoorDesk.java");
    private static final String[] FORBIDDEN_WORDS = {
        "throw", "throws", "try", "catch", "finally", "synchronized", "assert", "package", "volatile", "native",
        "equals", "hashCode", "toString", "Object", "System.out", "Thread", "Random", "currentTimeMillis", "nanoTime",
    };

    public static void main(String[] args) throws IOException {
        String text = Files.readString(SOURCE);
        String code = text.replaceAll("(?s)/\\*.*?\\*/", "").replaceAll("//[^\n]*", "");
        for (String word : FORBIDDEN_WORDS) {
            Due.holds("rule 6, 13: the program has no " + word,
                    !Pattern.compile("\\b" + Pattern.quote(word) + "\\b").matcher(code).find());
        }
        Due.holds("rule 2: no lambda", !code.contains("->"));
        Due.holds("rule 2: no method reference", !code.contains("::"));
        imports(code);
        System.out.println("the program has " + text.lines().count() + " lines");
        methodsAreShort(code);
        nothingIsMadeByCalls(code);
        Due.end();
    }

    private static void imports(String code) {
        Matcher found = Pattern.compile("(?m)^import (.*);").matcher(code);
        while (found.find()) {
            String name = found.group(1);
            Due.holds("rule 4: " + name, name.equals("java.util.Arrays") || name.equals("java.util.ArrayList")
                    || name.equals("java.util.List") || name.equals("java.util.Iterator"));
        }
    }

    private static void methodsAreShort(String code) {
        int start = -1;
        int indent = 0;
        String[] lines = code.split("\n");
        for (int i = 0; i < lines.length; i++) {
            boolean opens = lines[i].matches(" {4,8}[a-zA-Z].*\\) \\{") && !lines[i].trim().matches("(if|for|while|switch).*");
            if (start < 0 && opens) {
                start = i;
                indent = lines[i].length() - lines[i].stripLeading().length();
            } else if (start >= 0 && lines[i].equals(" ".repeat(indent) + "}")) {
                Due.holds("rule 11: a short method: " + lines[start].trim(), i - start < 60);
                start = -1;
            }
        }
    }

    /** All rows stand in fields or in the constructor, so that no call takes room. */
    private static void nothingIsMadeByCalls(String code) {
        String calls = code.substring(code.indexOf("public int parish"));
        Matcher made = Pattern.compile("(?m)^(.*)\\bnew\\b.*$").matcher(calls);
        while (made.find()) {
            Due.holds("made as a field: " + made.group().trim(), made.group(1).contains("final"));
        }
    }
}
