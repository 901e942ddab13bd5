import java.io.IOException;
import java.io.UncheckedIOException;
import java.nio.file.Files;
import java.nio.file.Path;
import java.util.regex.Matcher;
import java.util.regex.Pattern;

/** A test of a sentence of the document, which must really stand there: a test of words that are gone is stale. */
final class Sentence {
    private static final String DOCUMENT = read();

    private Sentence() {
    }

    private static String read() {
        try {
            return Files.readString(Path.of("../shared/DOC.md"));
        } catch (IOException e) {
            throw new UncheckedIOException(e);
        }
    }

    /** Where: the word with which a paragraph of the description begins, or the title of a section. */
    static void says(String where, String words, Runnable test) {
        Check.due(where + " says: " + words, plain(section(where)).contains(plain(words)), true);
        int before = Check.wrongSoFar();
        try {
            test.run();
        } catch (RuntimeException e) {
            Check.due("the test ended with " + e, false, true);
        }
        if (Check.wrongSoFar() > before) {
            System.out.println("    where " + where + " says: " + words);
        }
    }

    private static String section(String where) {
        String title = "(?s)\n## " + where + "(?:: [^\n]*)?\n(.*?)(?=\n## |$)";
        String paragraph = "(?s)\n\n(" + where + "\\. .*?)(?=\n\n)";
        for (String pattern : new String[] {title, paragraph}) {
            Matcher m = Pattern.compile(pattern).matcher(DOCUMENT);
            if (m.find()) {
                return m.group(1);
            }
        }
        return "";
    }

    private static String plain(String text) {
        return text.replace("`", "").replaceAll("\\s+", " ").trim();
    }
}
