import java.io.IOException;
import java.io.UncheckedIOException;
import java.nio.file.Files;
import java.nio.file.Path;

/** The document's words: a test of a sentence quotes it first, and at the end none may be left unquoted. */
final class Doc {
    static final int TERMS = 0;
    private static final int PROMISES = 44;
    private static final String TEXT = text(Path.of("../shared/DOC.md"));
    private static final boolean[] QUOTED = new boolean[TEXT.length()];
    private static int tests = 0;

    private Doc() {
    }

    /** White space folded, so that a quote may run over lines; headings of parts promise nothing. */
    private static String text(Path file) {
        try {
            return Files.readString(file).replaceAll("(?m)^```.*$", " ").replaceAll("(?m)^====.*$", " ")
                .replaceAll("(?m)^THE WALL$", " ").replaceAll("\\s+", " ");
        } catch (IOException e) {
            throw new UncheckedIOException(e);
        }
    }

    private static int beginOf(int section) {
        String head = section == TERMS ? "## Terms" : "## Promise " + section + ":";
        int at = TEXT.indexOf(head);
        // what stands ahead of a promise's first ": " behind its face is the face itself
        return at < 0 ? -1 : section == TERMS ? at + head.length() : TEXT.indexOf("`: ", at) + 3;
    }

    private static int endOf(int section) {
        int end = TEXT.indexOf(" ## ", beginOf(section));
        return end < 0 ? TEXT.length() : end;
    }

    /** A test of these words begins; they must stand in the section as they are. */
    static void quote(int section, String words) {
        tests++;
        int at = TEXT.indexOf(words, beginOf(section));
        boolean stands = at >= 0 && at + words.length() <= endOf(section);
        Check.about((section == TERMS ? "Terms" : "promise " + section) + ", '" + words + "'");
        Check.isTrue("the document says so", stands);
        for (int i = at; stands && i < at + words.length(); i++) {
            QUOTED[i] = true;
        }
    }

    /** Every word of Terms and of every promise was quoted by a test. */
    static void nothingIsLeft() {
        Check.about("the document");
        for (int section = TERMS; section <= PROMISES; section++) {
            StringBuilder left = new StringBuilder();
            for (int i = beginOf(section); i < endOf(section); i++) {
                left.append(QUOTED[i] ? ' ' : TEXT.charAt(i));
            }
            String words = left.toString().replaceAll("[^A-Za-z0-9]+", " ").trim();
            Check.isTrue("a test of section " + section + " quotes: " + left.toString().trim(), words.isEmpty());
        }
        System.out.println(tests + " sentences, or parts of them, tested");
    }
}
