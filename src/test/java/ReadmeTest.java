import java.io.ByteArrayOutputStream;
import java.io.IOException;
import java.io.PrintStream;
import java.lang.reflect.Method;
import java.lang.reflect.Modifier;
import java.nio.charset.StandardCharsets;
import java.nio.file.Files;
import java.nio.file.Path;
import java.util.List;
import java.util.stream.Collectors;
import java.util.stream.Stream;

/** README.md shows the example as it is and what it prints, and names each call of the face and each test. */
public final class ReadmeTest {
    private static final Path README = Path.of("README.md");
    private static final Path TESTS = Path.of("src/test/java");

    public static void main(String[] args) throws IOException {
        String readme = Files.readString(README);
        Due.due("README.md shows Example.java", block(readme, "java").equals(Files.readString(TESTS.resolve("Example.java"))), true);
        Due.due("README.md shows what Example prints", block(readme, "text").equals(printed()), true);
        for (Method method : RoundRows.class.getDeclaredMethods()) {
            if (Modifier.isPublic(method.getModifiers())) {
                Due.due("README.md names " + method.getName(), readme.contains("`" + method.getName() + "`"), true);
            }
        }
        for (String test : tests()) {
            Due.due("README.md names " + test, readme.contains("`" + test + "`"), true);
        }
        Due.finish();
    }

    /** What stands in the first block of a kind. */
    private static String block(String readme, String kind) {
        String begin = "```" + kind + "\n";
        int from = readme.indexOf(begin) + begin.length();
        return readme.substring(from, readme.indexOf("```\n", from));
    }

    private static String printed() {
        PrintStream console = System.out;
        ByteArrayOutputStream bytes = new ByteArrayOutputStream();
        System.setOut(new PrintStream(bytes, true, StandardCharsets.UTF_8));
        try {
            Example.main(new String[0]);
        } finally {
            System.setOut(console);
        }
        return bytes.toString(StandardCharsets.UTF_8).replace("\r\n", "\n");
    }

    private static List<String> tests() throws IOException {
        try (Stream<Path> files = Files.list(TESTS)) {
            return files.map(f -> f.getFileName().toString()).filter(f -> f.endsWith("Test.java"))
                    .map(f -> f.substring(0, f.length() - ".java".length())).sorted().collect(Collectors.toList());
        }
    }
}
