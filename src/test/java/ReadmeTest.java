import java.io.ByteArrayOutputStream;
import java.io.PrintStream;
import java.nio.charset.StandardCharsets;
import java.nio.file.Files;
import java.nio.file.Path;

/** What README.md shows is what Example has and prints; the tests that it names are there. */
final class ReadmeTest {
    private ReadmeTest() {
    }

    public static void main(String[] args) throws Exception {
        String readme = read("README.md");
        String example = read("src/test/java/Example.java");
        String shown = block(readme, "```java\n");
        Check.due("README.md shows a main method", shown.contains("public static void main"), true);
        Check.due("the example of README.md", example.substring(example.indexOf(shown.substring(0, 40))), shown + "}\n");
        Check.due("what it prints", printed(), block(readme, "```text\n"));
        theTests(readme);
        Check.finish();
    }

    private static String read(String path) throws Exception {
        return Files.readString(Path.of(path), StandardCharsets.UTF_8);
    }

    private static String block(String readme, String start) {
        int from = readme.indexOf(start) + start.length();
        return readme.substring(from, readme.indexOf("```", from));
    }

    private static String printed() {
        PrintStream before = System.out;
        ByteArrayOutputStream bytes = new ByteArrayOutputStream();
        System.setOut(new PrintStream(bytes, true, StandardCharsets.US_ASCII));
        Example.main(new String[0]);
        System.setOut(before);
        return bytes.toString(StandardCharsets.US_ASCII);
    }

    private static void theTests(String readme) throws Exception {
        try (var files = Files.list(Path.of("src/test/java"))) {
            for (Path file : files.toList()) {
                String name = file.getFileName().toString().replace(".java", "");
                boolean test = name.endsWith("Test");
                Check.due("README.md has " + name, !test || readme.contains("`" + name + "`"), true);
            }
        }
    }
}
