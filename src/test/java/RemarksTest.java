import java.io.IOException;
import java.nio.file.Files;
import java.nio.file.Path;
import java.util.ArrayList;
import java.util.Collections;
import java.util.List;
import java.util.Map;
import java.util.TreeMap;
import java.util.regex.Matcher;
import java.util.regex.Pattern;
import java.util.stream.Collectors;
import java.util.stream.Stream;

/**
 * The remarks of the tests of promises: each one says which sentence of the document it holds, the sentence stands there, and no
 * sentence of the terms and of the promises is left without a test.
 */
public final class RemarksTest {
    private static final Path DOC = Path.of("../shared/DOC.md");
    private static final Path TESTS = Path.of("src/test/java");
    /** These hold no single sentences. */
    private static final List<String> OTHERS = List.of("FaceTest.java", "ModelTest.java", "ReadmeTest.java", "RemarksTest.java");
    private static final Pattern TEST = Pattern.compile("(/\\*\\*(?:(?!\\*/).)*\\*/)?\\s*private static void (\\w+)\\(\\) \\{", Pattern.DOTALL);
    private static final Pattern REMARK = Pattern.compile("([A-Z][a-z ]+(?: \\d+)?): ((?:\"[^\"]+\",? ?)+)");
    private static final Pattern QUOTE = Pattern.compile("\"([^\"]+)\"");

    public static void main(String[] args) throws IOException {
        Map<String, String> sections = sections();
        Map<String, boolean[]> held = new TreeMap<>();
        for (Map.Entry<String, String> section : sections.entrySet()) {
            held.put(section.getKey(), new boolean[section.getValue().length()]);
        }
        for (Path file : tests()) {
            remarks(file, sections, held);
        }
        for (String name : sections.keySet()) {
            if (name.equals("Terms") || name.startsWith("Promise ")) {
                Due.due("parts of " + name + " that no test holds: " + left(sections.get(name), held.get(name)),
                        left(sections.get(name), held.get(name)).size(), 0);
            }
        }
        Due.due("promises", sections.keySet().stream().filter(name -> name.startsWith("Promise ")).count(), 38);
        Due.finish();
    }

    private static List<Path> tests() throws IOException {
        try (Stream<Path> files = Files.list(TESTS)) {
            return files.filter(f -> f.toString().endsWith("Test.java") && !OTHERS.contains(f.getFileName().toString())).sorted()
                    .collect(Collectors.toList());
        }
    }

    private static String oneLine(String text) {
        return text.replaceAll("\\s+", " ").trim();
    }

    /** The document's sections by their titles (a promise's without what follows its number), without the promises' signatures. */
    private static Map<String, String> sections() throws IOException {
        Map<String, String> sections = new TreeMap<>();
        for (String section : Files.readString(DOC).split("(?m)^## ")) {
            int end = section.indexOf('\n');
            String title = section.substring(0, end).replaceFirst("^(Promise \\d+):.*", "$1");
            String body = oneLine(section.substring(end).replaceAll("```(text)?|==== 2\\.", " "));
            sections.put(title, title.startsWith("Promise ") ? body.replaceFirst("^`[^`]*`: ", "") : body);
        }
        return sections;
    }

    private static void remarks(Path file, Map<String, String> sections, Map<String, boolean[]> held) throws IOException {
        String code = Files.readString(file);
        Matcher test = TEST.matcher(code);
        while (test.find()) {
            String name = file.getFileName() + ", " + test.group(2);
            Due.due(name + " is called", code.contains("        " + test.group(2) + "();\n"), true);
            String remark = test.group(1) == null ? "" : oneLine(test.group(1).replaceAll("(?m)^\\s*(/\\*\\*|\\*(?!/))|\\*/\\s*$", " "));
            Matcher parts = REMARK.matcher(remark);
            Due.due(name + " has a remark that tells its sentence: " + remark, parts.matches(), true);
            if (parts.matches()) {
                mark(name, parts.group(1), parts.group(2), sections, held);
            }
        }
    }

    private static void mark(String name, String title, String quotes, Map<String, String> sections, Map<String, boolean[]> held) {
        Matcher quote = QUOTE.matcher(quotes);
        while (quote.find()) {
            int at = sections.containsKey(title) ? sections.get(title).indexOf(quote.group(1)) : -1;
            Due.due(name + ": " + title + " has the sentence " + quote.group(1), at >= 0, true);
            for (int i = at; at >= 0 && i < at + quote.group(1).length(); i++) {
                held.get(title)[i] = true;
            }
        }
    }

    /** The parts of a section that have words or numbers and are not held. */
    private static List<String> left(String section, boolean[] held) {
        StringBuilder rest = new StringBuilder();
        for (int i = 0; i < held.length; i++) {
            rest.append(held[i] ? '\n' : section.charAt(i));
        }
        List<String> left = new ArrayList<>();
        Collections.addAll(left, rest.toString().split("\n+"));
        left.removeIf(part -> !part.matches(".*[a-zA-Z0-9].*"));
        return left;
    }
}
