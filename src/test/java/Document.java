import java.io.IOException;
import java.io.UncheckedIOException;
import java.nio.file.Files;
import java.nio.file.Path;
import java.util.ArrayList;
import java.util.List;

/** The document's own sentences: a test says which one it holds the class to, so that none is left over. */
final class Document {
    private static final Path PATH = Path.of("../shared/DOC.md");
    private final String text;
    private final boolean[] quoted;

    Document() {
        try {
            text = Files.readString(PATH);
        } catch (IOException missing) {
            throw new UncheckedIOException(missing);
        }
        quoted = new boolean[text.length()];
    }

    private int sectionStart(String heading) {
        return text.indexOf("\n## " + heading) + 1;
    }

    private int sectionEnd(int start) {
        int next = text.indexOf("\n## ", start);
        return next < 0 ? text.length() : next;
    }

    /** Marks a sentence of a section; false if it doesn't stand there. */
    boolean quote(String heading, String sentence) {
        int start = sectionStart(heading);
        int at = text.indexOf(sentence, start);
        if (start == 0 || at < 0 || at + sentence.length() > sectionEnd(start)) return false;
        for (int i = at; i < at + sentence.length(); i++) quoted[i] = true;
        return true;
    }

    private void addLeftOver(String heading, List<String> found) {
        int start = sectionStart(heading);
        int end = sectionEnd(start);
        StringBuilder run = new StringBuilder();
        boolean code = false;
        int body = text.indexOf('\n', start);
        for (int i = body; i <= end; i++) {
            boolean over = i == end || quoted[i] || text.charAt(i) == '\n';
            if (i < end && text.charAt(i) == '`') code = !code;
            else if (!over && !code) run.append(text.charAt(i));
            if (over && run.toString().matches(".*[a-zA-Z0-9].*")) found.add(heading + " .. " + run);
            if (over) run.setLength(0);
            // a fence is three of these signs with its language behind it
            if (i < end && text.startsWith("```", i)) {
                i = text.indexOf('\n', i) - 1;
                code = false;
            }
        }
    }

    /** What no test has quoted of the terms and the promises. */
    List<String> leftOver() {
        List<String> found = new ArrayList<>();
        addLeftOver("Terms", found);
        for (int number = 1; number <= 28; number++) addLeftOver("Promise " + number + ":", found);
        return found;
    }
}
