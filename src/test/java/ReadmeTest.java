import java.io.IOException;
import java.nio.file.Files;
import java.nio.file.Path;
import java.util.Arrays;
import java.util.List;
import java.util.TreeSet;
import java.util.regex.Matcher;
import java.util.regex.Pattern;
import java.util.stream.Stream;

/** What README.md says is so: its calls answer what stands behind them, and it names the tests and how to run them. */
public final class ReadmeTest {
    private static final Pattern BLOCK = Pattern.compile("(?s)```(\\w+)\n(.*?)```");
    private static final String ANSWER = "throws \\w+|'.'|-?\\d+(?:\\.\\d+f?(?: / \\d+\\.\\d+)?)?|true|false";
    private static final Pattern CALL = Pattern.compile("(network\\.\\w+\\(.*\\)); +// (" + ANSWER + ")(?:[ ,:].*)?");
    private static final int MOST_CALLS = 512;

    private ReadmeTest() {
    }

    /** The example as a method in which each call is compared with what stands behind it. */
    private static String methodOf(String name, String block) {
        StringBuilder method = new StringBuilder("    static void " + name + "() {\n");
        int calls = 0;
        for (String line : block.split("\n")) {
            Matcher m = CALL.matcher(line);
            if (m.matches()) {
                calls++;
                method.append(checked(m.group(1), m.group(2)));
            } else {
                Check.due("README.md says what this answers: " + line, line.startsWith("network."), false);
                method.append(line).append('\n');
            }
        }
        Check.due("an example has calls that answer", calls > 0 && calls < MOST_CALLS, true);
        return method.append("    }\n").toString();
    }

    private static String checked(String call, String answer) {
        String name = "\"README.md: " + call.replace("\"", "\\\"") + "\", ";
        if (answer.startsWith("throws ")) {
            return "Check.thrown(" + name + answer.substring(7) + ".class, () -> " + call + ");\n";
        }
        return "Check.due(" + name + call + ", " + answer + ");\n";
    }

    private static int exitOf(Path folder, String... command) throws IOException {
        Process process = new ProcessBuilder(command).directory(folder.toFile()).inheritIO().start();
        try {
            return process.waitFor();
        } catch (InterruptedException e) {
            return -1;
        }
    }

    private static void runExamples(String readme) throws IOException {
        StringBuilder methods = new StringBuilder();
        StringBuilder calls = new StringBuilder();
        int examples = 0;
        Matcher m = BLOCK.matcher(readme);
        while (m.find()) {
            if (m.group(1).equals("java")) {
                examples++;
                methods.append(methodOf("example" + examples, m.group(2)));
                calls.append("        example" + examples + "();\n");
            }
        }
        Check.due("README.md has examples", examples > 0, true);
        String program = "import java.util.NoSuchElementException;\n\nfinal class ReadmeExamples {\n" + methods
                + "    public static void main(String[] arguments) {\n" + calls
                + "        Check.end(\"the examples of README.md\");\n    }\n}\n";
        Path folder = Files.createTempDirectory("readme");
        try {
            Files.writeString(folder.resolve("ReadmeExamples.java"), program);
            String classes = Path.of(System.getProperty("java.class.path")).toAbsolutePath().toString();
            Check.due("the examples compile", exitOf(folder, "javac", "-cp", classes, "ReadmeExamples.java"), 0);
            String both = classes + System.getProperty("path.separator") + folder;
            Check.due("the examples answer", exitOf(folder, "java", "-cp", both, "ReadmeExamples"), 0);
        } finally {
            remove(folder);
        }
    }

    private static void remove(Path folder) throws IOException {
        try (Stream<Path> files = Files.list(folder)) {
            for (Path file : files.toList()) {
                Files.delete(file);
            }
        }
        Files.delete(folder);
    }

    private static void namesTheTests(String readme) throws IOException {
        TreeSet<String> named = new TreeSet<>();
        Matcher m = Pattern.compile("`(\\w+Test)`").matcher(readme);
        while (m.find()) {
            named.add(m.group(1));
        }
        TreeSet<String> there = new TreeSet<>();
        try (Stream<Path> files = Files.list(Path.of("src/test/java"))) {
            for (Path file : files.toList()) {
                String name = file.getFileName().toString();
                if (name.endsWith("Test.java")) {
                    there.add(name.substring(0, name.length() - 5));
                }
            }
        }
        Check.due("the tests that README.md names", named, there);
    }

    /** The script cannot be run here, as it is what runs this; that it is there and runs each test can be seen. */
    private static void namesTheCommand(String readme) throws IOException {
        Matcher m = Pattern.compile("(?s)## How to run its tests\n\n```sh\nbash (\\S+)\n```\n").matcher(readme);
        boolean isSaid = m.find();
        Check.due("README.md says how to run the tests", isSaid, true);
        Path script = Path.of(isSaid ? m.group(1) : "nothing");
        Check.due("the script is there", Files.isExecutable(script), true);
        String text = Files.readString(Path.of(".ci/run"));
        Check.due("it runs the project's tests", text.contains("for test in src/test/java/*Test.java; do"), true);
        Check.due("it runs the shared tests", text.contains("for test in \"$shared\"/tests/*.java; do"), true);
        Check.due("the script's last line", lastOf(text), "[ \"$failed\" -eq 0 ]");
    }

    private static String lastOf(String text) {
        List<String> lines = Arrays.asList(text.split("\n"));
        return lines.get(lines.size() - 1);
    }

    private static void namesFiles(String readme) {
        Matcher m = Pattern.compile("`((?:src|\\.\\./shared)[^` ]*)`").matcher(readme);
        while (m.find()) {
            Check.due(m.group(1) + " is there", Files.exists(Path.of(m.group(1))), true);
        }
        Check.due("the way to compile", readme.contains("`javac -d out src/main/java/HeatNetwork.java`"), true);
    }

    public static void main(String[] arguments) throws IOException {
        String readme = Files.readString(Path.of("README.md"));
        runExamples(readme);
        namesTheTests(readme);
        namesTheCommand(readme);
        namesFiles(readme);
        Check.end("ReadmeTest");
    }
}
