import java.io.IOException;
import java.nio.file.Files;
import java.nio.file.Path;

/** A part of the document, and which of its words the tests have quoted so far. */
final class Document {
    private final String text;
    private final boolean[] quoted;

    private Document(String text) {
        this.text = text;
        quoted = new boolean[text.length()];
    }

    /** What stands from the first sign of one text on to ahead of the other, which comes behind it. */
    static Document between(String from, String to) {
        String all = read();
        int first = all.indexOf(from);
        int behind = first < 0 ? -1 : all.indexOf(to, first + from.length());
        if (behind < 0) {
            throw new IllegalArgumentException("the document has no part from '" + from + "' to '" + to + "'");
        }
        return new Document(all.substring(first, behind));
    }

    static Document promise(int n) {
        Document whole = between("## Promise " + n + ":", "\n## ");
        int behindSignature = whole.text.indexOf("`: ");
        return new Document(whole.text.substring(behindSignature + 3));
    }

    /** False if these words are not there. */
    boolean quote(String words) {
        int at = text.indexOf(words);
        if (at < 0) {
            return false;
        }
        for (; at >= 0; at = text.indexOf(words, at + 1)) {
            for (int i = 0; i < words.length(); i++) {
                quoted[at + i] = true;
            }
        }
        return true;
    }

    /** The first words that were not quoted; empty if there are none. */
    String unquoted() {
        for (int i = 0; i < text.length(); i++) {
            if (!quoted[i] && Character.isLetterOrDigit(text.charAt(i))) {
                return text.substring(i, Math.min(text.length(), i + 60));
            }
        }
        return "";
    }

    private static String read() {
        try {
            return Files.readString(Path.of("../shared/DOC.md")).replace("```text\n", "").replace("```\n", "");
        } catch (IOException e) {
            throw new IllegalStateException("../shared/DOC.md can't be read");
        }
    }
}
