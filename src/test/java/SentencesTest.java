import java.io.IOException;
import java.nio.file.Files;
import java.nio.file.Path;
import java.util.List;
import java.util.Map;
import java.util.TreeMap;
import java.util.regex.Matcher;
import java.util.regex.Pattern;
import java.util.stream.Stream;

/**
 * The boundary tests name the sentences that they hold the class against: each stands in the document as it is
 * quoted, and no word of the Terms and of promises 1 to 21 is left that none of them quotes.
 */
public final class SentencesTest {
    private static final Path DOCUMENT = Path.of("../shared/DOC.md");
    private static final Path TESTS = Path.of("src/test/java");
    private static final Pattern SECTION = Pattern.compile("(?ms)^## ([^\n:]+)[^\n]*\n(.*?)(?=^## |\\z)");
    private static final Pattern QUOTE = Pattern.compile("checks\\.sentence\\(\\s*\"([^\"]+)\",\\s*\"([^\"]+)\"\\)");
    private static final char QUOTED = '\0';

    private static final Checks checks = new Checks();

    private static final Map<String, String> sections = new TreeMap<>();
    private static final Map<String, char[]> left = new TreeMap<>();

    public static void main(String[] args) throws IOException {
        readSections(Files.readString(DOCUMENT));
        for (Path test : boundaryTests()) {
            checks.part(test.toString());
            readQuotes(Files.readString(test));
        }
        lookAtWhatIsLeft("Terms");
        for (int promise = 1; promise <= 21; promise++) {
            lookAtWhatIsLeft("Promise " + promise);
        }
        checks.end();
    }

    private static List<Path> boundaryTests() throws IOException {
        try (Stream<Path> files = Files.list(TESTS)) {
            return files.filter(file -> file.toString().endsWith("BoundaryTest.java")).sorted().toList();
        }
    }

    /** Without the marks of code and the declarations of methods, and with single blanks. */
    private static void readSections(String document) {
        Matcher matcher = SECTION.matcher(document);
        while (matcher.find()) {
            String text = matcher.group(2).replaceAll("```(text)?", " ").replaceAll("`[^`]*`:", " ")
                    .replaceAll("\\s+", " ");
            sections.put(matcher.group(1), text);
            left.put(matcher.group(1), text.toCharArray());
        }
    }

    private static void readQuotes(String test) {
        Matcher matcher = QUOTE.matcher(test);
        int found = 0;
        while (matcher.find()) {
            found++;
            String text = sections.getOrDefault(matcher.group(1), "");
            int at = text.indexOf(matcher.group(2));
            checks.holds(matcher.group(1) + " has \"" + matcher.group(2) + "\"", at >= 0);
            for (int i = at; at >= 0 && i < at + matcher.group(2).length(); i++) {
                left.get(matcher.group(1))[i] = QUOTED;
            }
        }
        checks.holds("quotes were found", found > 0);
        checks.due("quotes that this test could read", found, test.split("checks\\.sentence\\(", -1).length - 1);
    }

    private static void lookAtWhatIsLeft(String section) {
        checks.part(section);
        checks.holds("is in the document", sections.containsKey(section));
        String words = new String(left.getOrDefault(section, new char[0])).replaceAll("[\\x00\\s]+", " ").trim();
        checks.holds("left without a test: " + words, words.isEmpty());
    }
}
