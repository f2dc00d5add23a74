import java.io.IOException;
import java.nio.file.Files;
import java.nio.file.Path;
import java.util.ArrayList;
import java.util.List;
import java.util.regex.Matcher;
import java.util.regex.Pattern;

/**
 * The examples of README.md: each call made here gives the answer that stands beside it there, and the calls
 * of both are the same ones in the same order. Run from the project's folder.
 */
public final class ReadmeTest {
    /** A line of an example: perhaps a name for the answer, a call, and the answer at the comment's beginning. */
    private static final Pattern LINE = Pattern.compile("(?:int (\\w+) = )?(store\\.\\w+\\(.*\\));\\s*// (-?\\w+)\\b.*");

    private static final List<String> CALLS = new ArrayList<>();
    private static final List<String> ANSWERS = new ArrayList<>();

    public static void main(String[] args) throws IOException {
        OutputStore store = new OutputStore();
        int folder = made("store.path(OutputStore.NONE)", store.path(OutputStore.NONE));
        int file = made("store.path(folder)", store.path(folder));
        int step = made("store.begin(3, 0, 0)", store.begin(3, 0, 0));
        made("store.stage(step, file, 77L, true, false)", store.stage(step, file, 77L, true, false));
        made("store.stage(step, folder, 78L, false, false)", store.stage(step, folder, 78L, false, false));
        made("store.content(0, file)", store.content(0, file));
        made("store.end(step, true)", store.end(step, true));
        made("store.content(0, file)", store.content(0, file));
        int hold = made("store.read(0, file)", store.read(0, file));
        made("store.copies(77L)", store.copies(77L));
        made("store.clear(0)", store.clear(0));
        made("store.held(hold)", store.held(hold));
        made("store.letGo(hold)", store.letGo(hold));
        made("store.stored()", store.stored());
        made("store.cache(80L, true)", store.cache(80L, true));
        int next = made("store.begin(3, 0, 1)", store.begin(3, 0, 1));
        made("store.stage(next, file, 80L, false, true)", store.stage(next, file, 80L, false, true));
        made("store.end(next, true)", store.end(next, true));
        made("store.copies(80L)", store.copies(80L));
        made("store.cache(80L, false)", store.cache(80L, false));
        made("store.read(0, file)", store.read(0, file));
        made("store.dirty(3, 0)", store.dirty(3, 0));
        compare(Files.readAllLines(Path.of("README.md")));
        Checks.finish();
    }

    private static int made(String call, Object answer) {
        CALLS.add(call);
        ANSWERS.add(answer.toString());
        return answer instanceof Integer number ? number : 0;
    }

    private static void compare(List<String> readme) {
        int at = 0;
        for (String line : readme) {
            Matcher matcher = LINE.matcher(line);
            if (matcher.matches()) {
                Checks.due("README.md, call " + at, matcher.group(2), at < CALLS.size() ? CALLS.get(at) : "none");
                Checks.due(matcher.group(2), at < ANSWERS.size() ? ANSWERS.get(at) : "none", matcher.group(3));
                at++;
            }
        }
        Checks.due("README.md's calls", at, CALLS.size());
    }
}
