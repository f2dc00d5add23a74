import java.io.IOException;
import java.nio.file.Files;
import java.nio.file.Path;
import java.util.regex.Matcher;
import java.util.regex.Pattern;

/** The class has none of the words and signs that LANGUAGE.md leaves out. Run from the project's folder. */
public final class LanguageTest {
    private static final String[] LEFT_OUT = {
        "\\bthrow\\b", "\\bthrows\\b", "\\btry\\b", "\\bcatch\\b", "\\bsynchronized\\b", "\\bassert\\b",
        "\\bpackage\\b", "\\bimport\\b", "->", "::", "Exact\\(", "\\bprotected\\b", "\\bvar\\b",
        "\\bhashCode\\b", "\\btoString\\b", "\\bSystem\\b", "\\bThread\\b", "static \\{",
    };

    public static void main(String[] args) throws IOException {
        String code = withoutComments(Files.readString(Path.of("src/main/java/OutputStore.java")));
        for (String word : LEFT_OUT) {
            Matcher matcher = Pattern.compile(word).matcher(code);
            Checks.due("how often the class has " + word, matcher.results().count(), 0);
        }
        Checks.finish();
    }

    private static String withoutComments(String code) {
        return code.replaceAll("(?s)/\\*.*?\\*/", "").replaceAll("//[^\n]*", "");
    }
}
