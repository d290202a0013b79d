import java.io.ByteArrayOutputStream;
import java.io.IOException;
import java.io.PrintStream;
import java.nio.charset.StandardCharsets;
import java.nio.file.Files;
import java.nio.file.Path;
import java.util.List;
import java.util.stream.Collectors;
import java.util.stream.Stream;

/** README.md shows the program Example as it is, what it prints, and names every test. */
public final class ReadmeTest {
    private static final Path TESTS = Path.of("src/test/java");
    private static int wrong;

    public static void main(String[] arguments) throws IOException {
        String readme = Files.readString(Path.of("README.md"));
        check(readme.contains("```java\n" + Files.readString(TESTS.resolve("Example.java")) + "```\n"),
                "README.md does not show Example.java as it is");
        String printed = printedByExample();
        check(!printed.isBlank() && readme.contains("It prints:\n\n```\n" + printed + "```\n"),
                "README.md does not show what Example prints, which is\n" + printed);
        for (String test : tests()) {
            check(readme.contains("- `" + test + "`: "), "README.md does not name " + test);
        }
        System.out.println(wrong == 0 ? "ReadmeTest: README.md is right" : "ReadmeTest: fails");
        System.exit(wrong == 0 ? 0 : 1);
    }

    private static void check(boolean good, String what) {
        if (!good) {
            wrong++;
            System.out.println("ReadmeTest: " + what);
        }
    }

    private static String printedByExample() {
        PrintStream before = System.out;
        ByteArrayOutputStream bytes = new ByteArrayOutputStream();
        System.setOut(new PrintStream(bytes, true, StandardCharsets.UTF_8));
        try {
            Example.main(new String[0]);
        } finally {
            System.setOut(before);
        }
        return bytes.toString(StandardCharsets.UTF_8).replace(System.lineSeparator(), "\n");
    }

    private static List<String> tests() throws IOException {
        try (Stream<Path> files = Files.list(TESTS)) {
            return files.map(file -> file.getFileName().toString())
                    .filter(name -> name.endsWith("Test.java"))
                    .map(name -> name.replace(".java", ""))
                    .sorted()
                    .collect(Collectors.toList());
        }
    }
}
