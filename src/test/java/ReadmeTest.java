import java.io.ByteArrayOutputStream;
import java.io.IOException;
import java.io.PrintStream;
import java.lang.reflect.Method;
import java.net.URL;
import java.net.URLClassLoader;
import java.nio.file.Files;
import java.nio.file.Path;
import java.util.TreeSet;
import java.util.regex.Matcher;
import java.util.regex.Pattern;
import java.util.stream.Stream;
import javax.tools.ToolProvider;

/** README.md held against the class and the tests: its example prints what it says, and it names what there is. */
public final class ReadmeTest {
    public static void main(String[] args) throws IOException, ReflectiveOperationException {
        Due due = new Due();
        String readme = Files.readString(Path.of("README.md"));
        example(due, block(readme, "java"), block(readme, "text"));
        calls(due, readme);
        tests(due, readme);
        classes(due, readme);
        due.end();
    }

    private static String block(String readme, String language) {
        Matcher found = Pattern.compile("(?s)```" + language + "\n(.*?)```").matcher(readme);
        return found.find() ? found.group(1) : "";
    }

    private static void example(Due due, String program, String prints) throws IOException, ReflectiveOperationException {
        Path home = Files.createTempDirectory("readme");
        Path file = Files.writeString(home.resolve("Example.java"), program);
        int failed = ToolProvider.getSystemJavaCompiler().run(null, null, null, "-d", home.toString(),
            "-cp", System.getProperty("java.class.path"), file.toString());
        due.is("compiling the example", failed, 0);
        if (failed == 0) {
            due.is("the example", printed(home), prints);
        }
        try (Stream<Path> made = Files.list(home)) {
            for (Path one : made.toList()) {
                Files.delete(one);
            }
        }
        Files.delete(home);
    }

    private static String printed(Path home) throws IOException, ReflectiveOperationException {
        PrintStream screen = System.out;
        ByteArrayOutputStream caught = new ByteArrayOutputStream();
        try (URLClassLoader loader = new URLClassLoader(new URL[] {home.toUri().toURL()})) {
            Method start = loader.loadClass("Example").getMethod("main", String[].class);
            System.setOut(new PrintStream(caught, true));
            start.invoke(null, (Object) new String[0]);
        } finally {
            System.setOut(screen);
        }
        return caught.toString().replace(System.lineSeparator(), "\n");
    }

    private static void calls(Due due, String readme) {
        TreeSet<String> named = found(readme, "(?m)^\\| `(\\w+)\\([^`]*\\)` \\|");
        TreeSet<String> there = new TreeSet<>();
        for (Method method : AxiomBook.class.getDeclaredMethods()) {
            if (java.lang.reflect.Modifier.isPublic(method.getModifiers())) {
                there.add(method.getName());
            }
        }
        due.is("the calls in its table", named.toString(), there.toString());
    }

    private static void tests(Due due, String readme) throws IOException {
        TreeSet<String> there = new TreeSet<>();
        try (Stream<Path> files = Files.list(Path.of("src/test/java"))) {
            for (Path file : files.toList()) {
                String name = file.getFileName().toString();
                if (name.endsWith("Test.java")) {
                    there.add(name.substring(0, name.length() - ".java".length()));
                }
            }
        }
        due.is("the tests that it names", found(readme, "`(\\w+Test)`").toString(), there.toString());
    }

    private static void classes(Due due, String readme) {
        for (Class<?> inner : AxiomBook.class.getDeclaredClasses()) {
            due.is("it names " + inner.getSimpleName(), readme.contains("`" + inner.getSimpleName() + "`") ? 1 : 0, 1);
        }
    }

    private static TreeSet<String> found(String readme, String pattern) {
        TreeSet<String> all = new TreeSet<>();
        Matcher matcher = Pattern.compile(pattern).matcher(readme);
        while (matcher.find()) {
            all.add(matcher.group(1));
        }
        return all;
    }
}
