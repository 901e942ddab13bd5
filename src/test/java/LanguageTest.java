import java.io.IOException;
import java.nio.file.Files;
import java.nio.file.Path;
import java.util.List;
import java.util.regex.Matcher;
import java.util.regex.Pattern;

/** Those rules of LANGUAGE.md that can be seen in the text of the program. */
public final class LanguageTest {
    private static final String[] FORBIDDEN = {"->", "::", "\\btry\\b", "\\bcatch\\b", "\\bfinally\\b",
        "\\bsynchronized\\b", "\\bassert\\b", "Exact\\(", "\\bpackage\\b", "\\bprotected\\b", "\\bObject\\b",
        "\\bSystem\\.(?!arraycopy)",
        "\\bstatic \\{", "getMessage", "hashCode", "toString", "\\bThread\\b", "\\bRandom\\b", "\\bMath\\.random",
        "\\bwhile \\(true\\)", "for \\(;;\\)", "@SuppressWarnings"};

    private LanguageTest() {
    }

    /** Comments and written texts say what they like. */
    private static String codeOf(String source) {
        return source.replaceAll("(?s)/\\*.*?\\*/", "").replaceAll("//[^\n]*", "").replaceAll("\"[^\"\n]*\"", "\"\"");
    }

    private static boolean has(String code, String pattern) {
        return Pattern.compile(pattern).matcher(code).find();
    }

    private static void looksAtMethods(List<String> lines) {
        Pattern head = Pattern.compile("^( +)(?:public |private |static |final )*[\\w<>\\[\\]]+ \\w+\\(.*");
        for (int i = 0; i < lines.size(); i++) {
            Matcher m = head.matcher(lines.get(i));
            if (m.matches() && !lines.get(i).trim().startsWith("return") && !lines.get(i).contains("=")
                    && !lines.get(i).contains("else") && !lines.get(i).endsWith(";")) {
                int end = i;
                while (end < lines.size() && !lines.get(end).equals(m.group(1) + "}")) {
                    end++;
                }
                Check.due("short enough: " + lines.get(i).trim(), end - i < 60, true);
                String parameters = lines.get(i).replaceAll(".*\\(", "");
                Check.due("few parameters: " + lines.get(i).trim(), parameters.split(",").length <= 7, true);
            }
        }
    }

    public static void main(String[] arguments) throws IOException {
        String source = Files.readString(Path.of("src/main/java/HeatNetwork.java"));
        String code = codeOf(source);
        for (String pattern : FORBIDDEN) {
            Check.due("the program has " + pattern, has(code, pattern), false);
        }
        Matcher imported = Pattern.compile("import ([\\w.]+);").matcher(code);
        while (imported.find()) {
            String name = imported.group(1);
            boolean isListed = name.equals("java.util.Arrays") || name.equals("java.util.NoSuchElementException");
            Check.due("import of " + name, isListed, true);
        }
        Check.due("static state", has(code, "\\bstatic (?!final )[\\w\\[\\]]+ \\w+( =|;)"), false);
        Check.due("signs beyond 127", has(source, "[^\\x00-\\x7f]"), false);
        looksAtMethods(List.of(code.split("\n")));
        Check.end("LanguageTest");
    }
}
