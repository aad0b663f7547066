import java.io.IOException;
import java.nio.file.Files;
import java.nio.file.Path;
import java.util.List;

/** The rules of LANGUAGE.md that can be read off the program's lines; FaceTest looks at those of its members. */
final class RulesTest {
    private static final int LONGEST_METHOD = 60;

    private static final String[] BANNED = {
        "import ", "package ", "->", "::", "finally", "synchronized", "assert ", "try ", "catch", "System.", "new Object",
        "Exact(", "instanceof", "@Override", "equals(", "hashCode", "toString", "Random", "Thread",
    };

    public static void main(String[] args) throws IOException {
        List<String> lines = Files.readAllLines(Path.of("src/main/java/Millrace.java"));
        int length = 0;
        for (int i = 0; i < lines.size(); i++) {
            String line = lines.get(i);
            // Members stand apart by an empty line and hold none, so that a run of lines is at most one method.
            length = line.isEmpty() ? 0 : length + 1;
            Checks.isTrue("the method up to line " + (i + 1) + " is short", length <= LONGEST_METHOD);
            if (!line.strip().startsWith("*") && !line.strip().startsWith("/")) {
                keepsToTheRules("line " + (i + 1), line);
            }
        }
        Checks.end("RulesTest");
    }

    private static void keepsToTheRules(String where, String line) {
        for (String word : BANNED) {
            Checks.isTrue(where + " does without " + word, !line.contains(word));
        }
        if (line.contains("throw ")) {
            Checks.isTrue(where + " throws one of the three, with a text", line.matches(
                " *throw new (IndexOutOfBounds|IllegalArgument|IllegalState)Exception\\(\"[^\"]*\"\\);"));
        }
        Checks.isTrue(where + " has plain signs", line.chars().allMatch(sign -> sign >= 1 && sign <= 127));
    }
}
