import java.nio.file.Files;
import java.nio.file.Path;
import java.util.List;
import java.util.regex.Matcher;
import java.util.regex.Pattern;

/** What LANGUAGE.md rules out and a look at the source's words can find. */
public final class SourceTest {
    private static final String[] RULED_OUT = {"throw", "throws", "try", "catch", "finally", "synchronized", "assert",
        "->", "::", "package", "protected", "native", "volatile", "transient", "Object", "HashMap", "Thread", "System.out",
        "System.nanoTime", "hashCode", "toString", "var", "interface", "NaN", "Exact"};

    public static void main(String[] args) throws java.io.IOException {
        Due due = new Due();
        List<String> lines = Files.readAllLines(Path.of("src/main/java/AxiomBook.java"));
        String code = String.join("\n", lines).replaceAll("(?s)/\\*.*?\\*/", "").replaceAll("//[^\n]*", "")
            .replaceAll("'[^']'", "0");
        for (String word : RULED_OUT) {
            boolean plain = word.matches("[\\w.]+");
            Pattern pattern = Pattern.compile(plain ? "(?<![\\w.])" + Pattern.quote(word) + "\\b" : Pattern.quote(word));
            due.is("the word " + word, pattern.matcher(code).find() ? 1 : 0, 0);
        }
        imports(due, code);
        library(due, code);
        classes(due, code);
        for (int i = 0; i < lines.size(); i++) {
            due.is("line " + (i + 1) + " is too long", lines.get(i).length() > 120 ? 1 : 0, 0);
        }
        due.end();
    }

    private static void imports(Due due, String code) {
        Matcher found = Pattern.compile("import ([\\w.*]+);").matcher(code);
        while (found.find()) {
            due.is("import", found.group(1), "java.util.Arrays");
        }
    }

    private static void library(Due due, String code) {
        Matcher found = Pattern.compile("\\b(Arrays|System|Math|Integer|Long)\\.(\\w+)").matcher(code);
        List<String> listed = List.of("Arrays.fill", "Arrays.copyOf", "System.arraycopy", "Math.min", "Math.max",
            "Math.abs");
        while (found.find()) {
            due.is(found.group() + " is in the library", listed.contains(found.group()) ? 1 : 0, 1);
        }
    }

    private static void classes(Due due, String code) {
        Matcher found = Pattern.compile("([^\n]*)\\bclass (\\w+)").matcher(code);
        int classes = 0;
        while (found.find()) {
            classes++;
            String modifiers = found.group(1).trim();
            due.is("class " + found.group(2), modifiers, classes == 1 ? "public final" : "private static final");
        }
        due.is("some twelve classes", classes <= 13 ? 1 : 0, 1);
    }
}
