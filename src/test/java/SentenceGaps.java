import java.io.IOException;
import java.nio.file.Files;
import java.nio.file.Path;
import java.util.ArrayList;
import java.util.LinkedHashMap;
import java.util.List;
import java.util.Map;

/**
 * Holds SENTENCES.md against the document, to be run by hand when either was changed: prints words that no row quotes,
 * and rows whose words do not stand in the document under that heading. It is no test, so that another wording of the
 * document refuses no landing.
 */
final class SentenceGaps {
    private static final String UNDER = "#";

    public static void main(String[] args) throws IOException {
        Map<String, String> document = sections(Files.readAllLines(Path.of("../shared/DOC.md")));
        Map<String, String> table = sections(Files.readAllLines(Path.of("src/test/SENTENCES.md")));
        int gaps = 0;
        for (Map.Entry<String, String> section : document.entrySet()) {
            gaps += gapsOf(section.getKey(), section.getValue(), table.getOrDefault(section.getKey(), ""));
        }
        System.out.println(gaps + " gaps in " + document.size() + " sections");
    }

    /** The lines under each heading, but for written-out code, which FaceTest holds. */
    private static Map<String, String> sections(List<String> lines) {
        Map<String, String> sections = new LinkedHashMap<>();
        String heading = "";
        boolean isCode = false;
        for (String line : lines) {
            isCode ^= line.startsWith("```");
            if (line.startsWith(UNDER)) {
                heading = line;
            } else if (!isCode && !heading.equals("## Not promised")) {
                sections.merge(heading, line + "\n", String::concat);
            }
        }
        return sections;
    }

    private static int gapsOf(String heading, String text, String table) {
        // What stands ahead of the first colon of a promise is its head, which FaceTest holds.
        String left = heading.startsWith("## Promise") ? text.substring(text.indexOf("`: ") + 1) : text;
        List<String> quotes = quotesOf(table);
        quotes.sort((one, other) -> other.length() - one.length());
        int gaps = 0;
        for (String quote : quotes) {
            int at = left.indexOf(quote);
            if (at < 0) {
                gaps++;
                System.out.println(heading + ": not in the document: " + quote);
            } else {
                left = left.substring(0, at) + "\n" + left.substring(at + quote.length());
            }
        }
        for (String words : left.split("\n")) {
            if (words.matches(".*[A-Za-z0-9]{2}.*") && !words.startsWith("```")) {
                gaps++;
                System.out.println(heading + ": not in the table: " + words);
            }
        }
        return gaps;
    }

    private static List<String> quotesOf(String table) {
        List<String> quotes = new ArrayList<>();
        for (String line : table.split("\n")) {
            if (line.startsWith("| ") && !line.startsWith("| words") && !line.startsWith("| ---")) {
                quotes.add(line.substring(2, line.indexOf(" | ")));
            }
        }
        return quotes;
    }
}
