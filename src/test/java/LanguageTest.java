import java.io.IOException;
import java.nio.file.Files;
import java.nio.file.Path;
import java.util.regex.Matcher;
import java.util.regex.Pattern;

/** The rules of LANGUAGE.md that a look at the text of the source can tell. */
public final class LanguageTest {
    private static final Path SOURCE = Path.of("src/main/java/StageDesk.java");
    private static final String[] FORBIDDEN = {
        "\\bthrows?\\b", "\\btry\\b", "\\bcatch\\b", "\\bsynchronized\\b", "\\bassert\\b", "->", "::", "\\bpackage\\b",
        "\\bprotected\\b", "\\bstatic\\s*\\{", "\\bSystem\\.(?!arraycopy\\b)", "\\bThread\\b", "\\bRandom\\b",
        "\\bObject\\b", "\\bhashCode\\b", "\\btoString\\b", "\\bequals\\b", "Exact\\b", "\\bvar\\b",
        "\\bstatic\\s+(?!final\\b)\\w+(\\[\\])*\\s+\\w+\\s*[;=]",
        "(?<!static )(?<!static final )\\bclass (?!StageDesk\\b)"
    };

    private static final Checks checks = new Checks();

    public static void main(String[] args) throws IOException {
        String text = Files.readString(SOURCE).replaceAll("(?s)/\\*.*?\\*/", "").replaceAll("//[^\n]*", "");
        checks.part("LANGUAGE.md");
        for (String pattern : FORBIDDEN) {
            checks.due(pattern, count(pattern, text), 0);
        }
        checks.due("imports", count("\\bimport\\b", text), count("import java\\.util\\.Arrays;", text));
        checks.holds("at most twelve classes", count("\\bclass\\b", text) <= 12);
        checks.due("public members and the class", count("\\bpublic\\b", text), 1 + 4 + 1 + 20);
        longMethods(text);
        checks.end();
    }

    private static int count(String pattern, String text) {
        Matcher matcher = Pattern.compile(pattern).matcher(text);
        int found = 0;
        while (matcher.find()) {
            found++;
        }
        return found;
    }

    private static void longMethods(String text) {
        Matcher matcher = Pattern.compile("(?m)^( +)[^\n;=]*\\) \\{\n(?s:.*?)\n\\1\\}$").matcher(text);
        int found = 0;
        while (matcher.find()) {
            found++;
            String method = matcher.group();
            checks.holds("a short method:" + method.lines().findFirst().orElse(""), method.lines().count() <= 60);
        }
        checks.holds("methods were found", found > 40);
    }
}
