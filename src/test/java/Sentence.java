import java.io.IOException;
import java.io.UncheckedIOException;
import java.nio.file.Files;
import java.nio.file.Path;
import java.util.ArrayList;
import java.util.List;
import java.util.regex.Matcher;
import java.util.regex.Pattern;

/** A test of a sentence of the document, which must really stand there: a test of words that are gone is stale. */
final class Sentence {
    private static final String DOCUMENT = read();
    /** What was quoted so far: always a place and words of it. */
    private static final List<String[]> SAID = new ArrayList<>();

    private Sentence() {
    }

    private static String read() {
        try {
            return Files.readString(Path.of("../shared/DOC.md"));
        } catch (IOException e) {
            throw new UncheckedIOException(e);
        }
    }

    /** Where: the word with which a paragraph of the description begins, or the title of a section. */
    static void says(String where, String words, Runnable test) {
        Check.due(where + " says: " + words, plain(section(where)).contains(plain(words)), true);
        SAID.add(new String[] {where, plain(words)});
        int before = Check.wrongSoFar();
        try {
            test.run();
        } catch (RuntimeException e) {
            Check.due("the test ended with " + e, false, true);
        }
        if (Check.wrongSoFar() > before) {
            System.out.println("    where " + where + " says: " + words);
        }
    }

    /** The names of the paragraphs of the description, and the promises, in the order of the document. */
    static List<String> places() {
        List<String> places = new ArrayList<>();
        places.add("What it is");
        String description = section("Description");
        Matcher m = Pattern.compile("(?:^|\n)\n([A-Z][a-z]+(?: [a-z]+)?)\\. ").matcher(description);
        while (m.find()) {
            places.add(m.group(1));
        }
        m = Pattern.compile("\n## (Promise \\d+): ").matcher(DOCUMENT);
        while (m.find()) {
            places.add(m.group(1));
        }
        return places;
    }

    /** The words of a place that were not quoted; the name of a paragraph and a signature are no sentences. */
    static String withoutTest(String where) {
        String text = section(where).replaceFirst("^\n`[^`\n]+`\n", "");
        text = plain(text.startsWith(where + ". ") ? text.substring(where.length() + 2) : text);
        boolean[] isQuoted = new boolean[text.length()];
        for (String[] said : SAID) {
            if (said[0].equals(where)) {
                mark(text, said[1], isQuoted);
            }
        }
        StringBuilder left = new StringBuilder();
        for (int i = 0; i < isQuoted.length; i++) {
            left.append(isQuoted[i] ? ' ' : text.charAt(i));
        }
        return left.toString().replaceAll("[.,:;]", " ").replaceAll("\\band\\b", " ").trim();
    }

    private static void mark(String text, String words, boolean[] isQuoted) {
        int found = text.indexOf(words);
        while (found >= 0) {
            for (int i = found; i < found + words.length(); i++) {
                isQuoted[i] = true;
            }
            found = text.indexOf(words, found + 1);
        }
    }

    private static String section(String where) {
        String title = "(?s)\n## " + where + "(?:: [^\n]*)?\n(.*?)(?=\n## |$)";
        String paragraph = "(?s)\n\n(" + where + "\\. .*?)(?=\n\n)";
        for (String pattern : new String[] {title, paragraph}) {
            Matcher m = Pattern.compile(pattern).matcher(DOCUMENT);
            if (m.find()) {
                return m.group(1);
            }
        }
        return "";
    }

    private static String plain(String text) {
        return text.replace("`", "").replaceAll("\\s+", " ").trim();
    }
}
