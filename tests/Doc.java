import java.io.IOException;
import java.io.UncheckedIOException;
import java.nio.file.Files;
import java.nio.file.Path;
import java.util.regex.Matcher;
import java.util.regex.Pattern;

/**
 * The document's own words. Each test tells the words that it is a test of; they must stand in the document so, and at
 * the end no word from 'Terms' to 'Promise 19' may be left that no test told.
 */
final class Doc {
    private static final String TEXT = read();
    private static final String FIRST = "Which way is gone is told", BEHIND_LAST = "## Not promised";
    private static final boolean[] told = new boolean[TEXT.length()];
    private static int from = 0, to = TEXT.length();

    private Doc() {
    }

    private static String read() {
        try {
            return Files.readString(Path.of("../shared/DOC.md")).replaceAll("\\s+", " ");
        } catch (IOException e) {
            throw new UncheckedIOException(e);
        }
    }

    /** What is said from here on is looked for between these words and those. */
    static void section(String first, String behindLast) {
        from = TEXT.indexOf(first);
        to = from < 0 ? -1 : TEXT.indexOf(behindLast, from + first.length());
        Due.about(first);
        Due.due("a section of the document: " + first, from >= 0 && to > from ? 1 : 0, 1);
        from = Math.max(from, 0);
        to = Math.max(to, from);
    }

    static void promise(int number) {
        section("## Promise " + number + ":", "## ");
    }

    /** Begins the test of these words. */
    static void says(String words) {
        int at = TEXT.indexOf(words, from);
        boolean isThere = at >= 0 && at + words.length() <= to;
        Due.about(words);
        Due.due("words of the document: " + words, isThere ? 1 : 0, 1);
        for (int k = at; isThere && k < at + words.length(); k++) {
            told[k] = true;
        }
    }

    /** Headings, signatures and where the interface has its headings are FaceTest's. */
    private static void tellForms() {
        String forms = "## Promise \\d+: (A new object|\\w+)|`(int|long)? ?\\w+\\([^)]*\\)`:?|Ahead of the calls .*? the interface says: "
                + "---- \\w+\\.|```(text)?|={8} \\d (PROGRAMS\\.)?";
        Matcher m = Pattern.compile(forms).matcher(TEXT);
        while (m.find()) {
            for (int k = m.start(); k < m.end(); k++) {
                told[k] = true;
            }
        }
    }

    static void everyWordIsTold() {
        tellForms();
        Due.about("every word has a test");
        int end = TEXT.indexOf(BEHIND_LAST);
        for (int k = TEXT.indexOf(FIRST); k < end; k++) {
            int begin = k;
            boolean isWord = false;
            while (k < end && !told[k]) {
                isWord |= Character.isLetterOrDigit(TEXT.charAt(k));
                k++;
            }
            Due.due("no test of: " + TEXT.substring(begin, k), isWord ? 1 : 0, 0);
        }
    }
}
