import java.io.IOException;
import java.lang.reflect.Constructor;
import java.lang.reflect.Field;
import java.lang.reflect.Method;
import java.lang.reflect.Modifier;
import java.nio.file.Files;
import java.nio.file.Path;
import java.util.ArrayList;
import java.util.List;
import java.util.TreeSet;
import java.util.regex.Matcher;
import java.util.regex.Pattern;

/** The face of the class is the one that the document lists, and nothing beside it. */
public final class FaceTest {
    private static final Pattern METHOD = Pattern.compile("public (\\w+) (\\w+)\\(([^)]*)\\)(?: throws ([\\w, ]+))?;");

    private FaceTest() {
    }

    private static String names(Class<?>[] types) {
        List<String> names = new ArrayList<>();
        for (Class<?> type : types) {
            names.add(type.getSimpleName());
        }
        return String.join(", ", names);
    }

    private static TreeSet<String> documented() throws IOException {
        TreeSet<String> face = new TreeSet<>();
        Matcher m = METHOD.matcher(Files.readString(Path.of("../shared/DOC.md")));
        while (m.find()) {
            String types = m.group(3).replaceAll("(\\w+) \\w+", "$1");
            face.add(m.group(1) + " " + m.group(2) + "(" + types + ") " + (m.group(4) == null ? "" : m.group(4)));
        }
        return face;
    }

    /** A promise each, in the order of the face: the signature, then the parameters in their order. */
    private static void promises() throws IOException {
        String document = Files.readString(Path.of("../shared/DOC.md"));
        String face = document.substring(document.indexOf("```java"), document.indexOf("## Description"));
        Matcher listed = Pattern.compile("    public (.*);\n").matcher(face);
        Matcher promised = Pattern.compile("\n## Promise (\\d+): [^\n]*\n\n`([^`]*)`\n(.*?)(?=\n## )", Pattern.DOTALL)
                .matcher(document);
        int number = 0;
        while (promised.find()) {
            number++;
            Check.due("the number of promise " + number, promised.group(1), String.valueOf(number));
            String signature = listed.find() ? listed.group(1) : "nothing";
            Check.due("the signature of promise " + number, promised.group(2), signature);
            List<String> told = new ArrayList<>();
            Matcher parameter = Pattern.compile("\n- `(\\w+)`: ").matcher(promised.group(3));
            while (parameter.find()) {
                told.add(parameter.group(1));
            }
            String between = signature.replaceAll(".*\\(|\\).*", "").replaceAll("\\w+ (\\w+)", "$1");
            Check.due("the parameters of promise " + number, String.join(", ", told), between);
        }
        Check.due("40 promises", number, 40);
        Check.due("no signature without a promise", listed.find(), false);
    }

    public static void main(String[] arguments) throws IOException {
        promises();
        TreeSet<String> found = new TreeSet<>();
        TreeSet<String> hidden = new TreeSet<>();
        TreeSet<String> shown = new TreeSet<>();
        for (Method m : HeatNetwork.class.getDeclaredMethods()) {
            if (Modifier.isPrivate(m.getModifiers())) {
                hidden.add(m.getName());
            } else {
                Check.due(m.getName() + " is public alone", m.getModifiers(), Modifier.PUBLIC);
                found.add(m.getReturnType().getSimpleName() + " " + m.getName()
                        + "(" + names(m.getParameterTypes()) + ") " + names(m.getExceptionTypes()));
                shown.add(m.getName());
            }
        }
        for (Class<?> inner : HeatNetwork.class.getDeclaredClasses()) {
            Check.due(inner + " is static", Modifier.isStatic(inner.getModifiers()), true);
            Check.due(inner + " is not public", Modifier.isPublic(inner.getModifiers()), false);
            for (Method m : inner.getDeclaredMethods()) {
                hidden.add(m.getName());
            }
        }
        Check.due("the methods", found, documented());
        Check.due("39 methods", found.size(), 39);
        hidden.retainAll(shown);
        Check.due("names that are used twice", hidden, new TreeSet<String>());
        for (Field f : HeatNetwork.class.getDeclaredFields()) {
            Check.due(f + " is private", Modifier.isPrivate(f.getModifiers()), true);
        }
        Constructor<?>[] constructors = HeatNetwork.class.getDeclaredConstructors();
        Check.due("one constructor", constructors.length, 1);
        Check.due("it is public", constructors[0].getModifiers(), Modifier.PUBLIC);
        Check.due("without parameters", constructors[0].getParameterCount(), 0);
        Check.due("a final class", HeatNetwork.class.getModifiers(), Modifier.PUBLIC | Modifier.FINAL);
        Check.end("FaceTest");
    }
}
