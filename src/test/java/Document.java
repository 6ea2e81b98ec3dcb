import java.io.IOException;
import java.io.UncheckedIOException;
import java.nio.file.Files;
import java.nio.file.Path;
import java.util.ArrayList;
import java.util.List;

/** What the tests take from ../shared/DOC.md: the sentences of "Terms" and of each promise, and the form of scripts. */
final class Document {
    static final int PROMISES = 55;
    private static final String TEXT = read();

    private Document() {
    }

    private static String read() {
        try {
            return Files.readString(Path.of("../shared/DOC.md"));
        } catch (IOException e) {
            throw new UncheckedIOException(e);
        }
    }

    static List<String> terms() {
        return sentences(between("## Terms\n", "\nAhead of the calls"));
    }

    static List<String> promise(int number) {
        String next = number == PROMISES ? "\n## Not promised" : "\n## Promise " + (number + 1) + ":";
        String section = between("## Promise " + number + ": ", next);
        return sentences(section.substring(section.indexOf('\n')));
    }

    /** The form of a script: a rule on each line. */
    static String form() {
        return between("```text\n", "\n```");
    }

    private static String between(String start, String end) {
        int from = TEXT.indexOf(start) + start.length();
        return TEXT.substring(from, TEXT.indexOf(end, from));
    }

    /** A sentence ends with a full stop, with its paragraph, or with a line of a list or of the script's form. */
    private static List<String> sentences(String text) {
        List<String> found = new ArrayList<>();
        for (String part : text.split("\n\n|\n- |\n(?=  )")) {
            for (String sentence : part.replaceAll("^- |`[^`]*[(][^`]*`: |```\\w*", "").split("(?<=[.])\\s+")) {
                if (!sentence.isBlank()) {
                    found.add(sentence.strip().replaceAll("\\s+", " "));
                }
            }
        }
        return found;
    }
}
