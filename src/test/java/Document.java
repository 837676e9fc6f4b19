import java.io.IOException;
import java.nio.file.Files;
import java.nio.file.Path;

/** The document's words, by promise, without what only marks fences and lists. */
final class Document {
    static final int WHAT_IT_IS = -1;
    static final int TERMS = 0;
    static final int PROMISES = 36;

    private final String text;

    Document() throws IOException {
        String marked = Files.readString(Path.of("../shared/DOC.md"));
        text = marked.replaceAll("(?m)^(```\\w*|\\d+\\. )", "").replaceAll("\\s+", " ");
    }

    /** The words of a promise without its heading and face, or of a part; 'Terms' without the face's headings. */
    String wordsOf(int promise) {
        if (promise == WHAT_IT_IS) {
            return between("## What it is ", "## The public face ");
        }
        if (promise == TERMS) {
            return between("## Terms ", "Ahead of the calls ");
        }
        String end = promise == PROMISES ? "## Not promised" : "## Promise " + (promise + 1) + ": ";
        String whole = between("## Promise " + promise + ": ", end);
        return whole.substring(whole.indexOf("`: ") + 3);
    }

    /** The act that a promise is of, as its heading has it: "long drop(int i)". */
    String actOf(int promise) {
        String heading = between("## Promise " + promise + ": ", "`: ");
        return heading.substring(heading.indexOf('`') + 1);
    }

    /** The class as the part 'The public face' has it. */
    String face() {
        return between("## The public face ", "## Terms ").trim();
    }

    /** What the interface says ahead of its calls. */
    String headings() {
        return "Ahead of the calls " + between("Ahead of the calls ", "## Promise 1: ");
    }

    private String between(String start, String end) {
        int from = text.indexOf(start) + start.length();
        return text.substring(from, text.indexOf(end, from));
    }
}
