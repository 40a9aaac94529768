import java.io.IOException;
import java.nio.file.Files;
import java.nio.file.Path;
import java.util.List;
import java.util.Set;
import java.util.TreeSet;
import java.util.regex.Matcher;
import java.util.regex.Pattern;

/** What of ../shared/LANGUAGE.md can be seen in the text of the class: words, names, lengths. */
public final class LanguageTest {
    private static final Set<String> LIBRARY = Set.of("Math.abs", "Math.floorDiv", "Math.floorMod", "Math.max", "Math.min",
        "Integer.bitCount", "Arrays.fill");
    private static final Set<String> THROWN = Set.of("IllegalStateException", "IllegalArgumentException",
        "IndexOutOfBoundsException", "UnsupportedOperationException", "NoSuchElementException");

    public static void main(String[] args) throws IOException {
        List<String> lines = Files.readAllLines(Path.of("src/main/java/LetterForms.java"));
        StringBuilder all = new StringBuilder();
        for (String line : lines) {
            all.append(line.replaceAll("'.'", "' '").replaceAll("//.*", "").replaceAll("/\\*\\*.*", "")).append('\n');
        }
        String text = all.toString();
        Check.due("4: imports", "[java.util.Arrays, java.util.NoSuchElementException]", () -> found(text, "import ([\\w.]+);"));
        Check.due("4: library", "[]", () -> others(found(text, "\\b((?:Math|Integer|Long|Arrays|System|String|List|Object)\\.\\w+)"), LIBRARY));
        Check.due("6: what is thrown", "[]", () -> others(found(text, "throw (?:new (\\w+)\\(\\);)?"), THROWN));
        Check.due("6: words", "[]", () -> found(text, "\\b(try|catch|finally|synchronized|assert|yield|strictfp|native|transient|volatile)\\b"));
        Check.due("2: no lambda, no reference", "[]", () -> found(text, "(->|::)"));
        Check.due("5: no static block", "[]", () -> found(text, "\\b(static \\{)"));
        Check.due("3: no text, no double", "[]", () -> found(text, "\\b(String|StringBuilder|double|float|Integer|var)\\b(?!\\.bitCount)"));
        Check.due("6: no equals and its like", "[]", () -> found(text, "\\b(equals|hashCode|toString)\\("));
        Check.due("11: classes", true, () -> found(text, "\\b(?:class|enum|record|interface) (\\w+)").size() <= 12);
        Check.due("11: long methods", "[]", () -> longOnes(lines));
        Check.due("3: signs", "[]", () -> found(text, "([^\\x0a\\x20-\\x7e])"));
        Check.end("LanguageTest");
    }

    private static Set<String> found(String text, String what) {
        Set<String> all = new TreeSet<>();
        Matcher m = Pattern.compile(what).matcher(text);
        while (m.find()) {
            all.add(String.valueOf(m.group(1)));
        }
        return all;
    }

    private static Set<String> others(Set<String> all, Set<String> allowed) {
        all.removeAll(allowed);
        return all;
    }

    /** Methods of more than 60 lines, or of more than seven parameters. */
    private static Set<String> longOnes(List<String> lines) {
        Set<String> all = new TreeSet<>();
        Pattern head = Pattern.compile("^( {4}| {8})(?:[\\w\\[\\]]+ )*(\\w+)\\(([^)]*)\\)(?: throws [\\w, ]+)? \\{$");
        for (int n = 0; n < lines.size(); n++) {
            Matcher m = head.matcher(lines.get(n));
            if (m.matches()) {
                int end = n;
                while (!lines.get(end).equals(m.group(1) + "}")) {
                    end++;
                }
                if (end - n + 1 > 60 || m.group(3).split(",").length > 7) {
                    all.add(m.group(2));
                }
            }
        }
        return all;
    }
}
