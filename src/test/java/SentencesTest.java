import java.io.IOException;
import java.nio.file.Files;
import java.nio.file.Path;
import java.util.regex.Matcher;
import java.util.regex.Pattern;

/** Each test that SENTENCES.md names for a sentence of the document is there, and is run by its class. */
final class SentencesTest {
    private static final Path TABLE = Path.of("src/test/SENTENCES.md");
    private static final Path TESTS = Path.of("src/test/java");
    private static final Pattern NAME = Pattern.compile("(\\w+Test)\\.(\\w+)");

    public static void main(String[] args) throws IOException {
        int rows = 0;
        for (String line : Files.readAllLines(TABLE)) {
            if (line.startsWith("| ") && !line.startsWith("| words") && !line.startsWith("| ---")) {
                rows++;
                look(line);
            }
        }
        Checks.isTrue("the table has rows", rows > 300);
        Checks.end("SentencesTest");
    }

    private static void look(String row) throws IOException {
        Matcher names = NAME.matcher(row);
        Checks.isTrue("a test is named in " + row, names.find());
        do {
            Path file = TESTS.resolve(names.group(1) + ".java");
            boolean isFile = Files.exists(file);
            Checks.isTrue(file + " is there", isFile);
            String text = isFile ? Files.readString(file) : "";
            Checks.isTrue(names.group() + " is there", text.contains(" void " + names.group(2) + "() {"));
            Checks.isTrue(names.group() + " is run", text.contains("        " + names.group(2) + "();"));
        } while (names.find());
    }
}
