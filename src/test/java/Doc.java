import java.io.IOException;
import java.nio.file.Files;
import java.nio.file.Path;

/** The words of ../shared/DOC.md: a test tells by which of them it stands, and no sentence may be without a test. */
final class Doc {
    private static final String WORDS = read();
    private static final boolean[] TESTED = new boolean[WORDS.length()];

    private Doc() {
    }

    private static String read() {
        try {
            return Files.readString(Path.of("../shared/DOC.md"));
        } catch (IOException e) {
            throw new IllegalStateException("no ../shared/DOC.md: run the tests by .ci/run", e);
        }
    }

    static void says(String words) {
        Due.by(words);
        int from = WORDS.indexOf(words);
        Due.holds("the document says it, once", from >= 0 && WORDS.indexOf(words, from + 1) < 0);
        for (int i = Math.max(from, 0); i < from + words.length(); i++) {
            TESTED[i] = true;
        }
    }

    /** Each sentence of "Terms" and of the promises must have been said by a test. */
    static void allTested() {
        Due.by("every sentence has a test");
        int from = WORDS.indexOf("## Terms");
        int end = WORDS.indexOf("## Not promised");
        Due.holds("the document has its headings", from >= 0 && end > from);
        while (from >= 0 && from < end) {
            int lineEnd = WORDS.indexOf('\n', from);
            String line = WORDS.substring(from, lineEnd);
            if (!line.startsWith("## ") && !line.startsWith("```") && !line.startsWith("Ahead of the calls")) {
                untested(from, lineEnd);
            }
            from = lineEnd + 1;
        }
    }

    private static void untested(int from, int end) {
        StringBuilder left = new StringBuilder();
        for (int i = from; i < end; i++) {
            left.append(TESTED[i] ? ' ' : WORDS.charAt(i));
        }
        String rest = left.toString().strip();
        Due.holds("no test says: " + rest, rest.chars().noneMatch(Character::isLetterOrDigit));
    }
}
