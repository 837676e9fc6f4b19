import java.io.IOException;
import java.nio.file.Files;
import java.nio.file.Path;

/** The document's words, by promise, without what only marks fences and lists. */
final class Document {
    static final int PROMISES = 36;

    private final String text;

    Document() throws IOException {
        String marked = Files.readString(Path.of("../shared/DOC.md"));
        text = marked.replaceAll("(?m)^(```\\w*|\\d+\\. )", "").replaceAll("\\s+", " ");
    }

    /** The words of a promise without its heading and face; of 0 the part 'Terms', without the face's headings. */
    String wordsOf(int promise) {
        if (promise == 0) {
            return between("## Terms ", "Ahead of the calls ");
        }
        String end = promise == PROMISES ? "## Not promised" : "## Promise " + (promise + 1) + ": ";
        String whole = between("## Promise " + promise + ": ", end);
        return whole.substring(whole.indexOf("`: ") + 3);
    }

    private String between(String start, String end) {
        int from = text.indexOf(start) + start.length();
        return text.substring(from, text.indexOf(end, from));
    }
}
