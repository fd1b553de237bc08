import java.io.ByteArrayOutputStream;
import java.io.IOException;
import java.lang.reflect.Method;
import java.lang.reflect.Modifier;
import java.net.URL;
import java.net.URLClassLoader;
import java.nio.file.Files;
import java.nio.file.Path;
import java.util.Comparator;
import java.util.HashSet;
import java.util.List;
import java.util.Set;
import java.util.function.BiConsumer;
import java.util.regex.Matcher;
import java.util.regex.Pattern;
import java.util.stream.Stream;
import javax.tools.ToolProvider;

/**
 * What README.md shows answers as README.md says: its examples are made into a class, compiled and
 * run. A call in an example that has no answer behind it is a fault, and so is a call of the class
 * that no example shows.
 */
public final class ReadmeTest {
    private static final Path README = Path.of("README.md");
    private static final Path TESTS = Path.of("src/test/java");
    private static final String NAME = "ReadmeExamples";
    /** A call on x, and behind it the answer, which a colon parts from what is told of it. */
    private static final Pattern ANSWERED = Pattern.compile("(x\\.(\\w+)\\(.*\\)); +// ('.'|[^: ]+)(: .*)?");
    /** A line without an answer: a new object, or a text that is put on its tape. */
    private static final Pattern PLAIN = Pattern.compile("TornReeds x = new TornReeds\\(\\);|put\\(x, \"[^\"]*\"\\);");

    private static final Due due = new Due("README.md");

    /** The method that the examples share, and the examples, each in a scope of its own. */
    private final StringBuilder shared = new StringBuilder();
    private final StringBuilder examples = new StringBuilder();
    private final Set<String> shown = new HashSet<>();
    private int answers = 0;

    public static void main(String[] args) throws IOException, ReflectiveOperationException {
        List<String> lines = Files.readAllLines(README);
        new ReadmeTest().look(lines);
        testsAreNamed(String.join("\n", lines));
        due.close();
    }

    private void look(List<String> lines) throws IOException, ReflectiveOperationException {
        for (int i = 0; i < lines.size(); i++) {
            if (lines.get(i).equals("```java")) {
                int behind = i + 1 + lines.subList(i + 1, lines.size()).indexOf("```");
                due.holds("README.md line " + (i + 1) + ": an example has no end, or nothing in it", behind > i + 1);
                addBlock(lines, i + 1, behind);
                i = Math.max(i, behind);
            }
        }
        int asked = askExamples();
        due.is("README.md: answers that were looked at", asked, answers);
        for (Method m : TornReeds.class.getDeclaredMethods()) {
            if (Modifier.isPublic(m.getModifiers())) {
                due.holds("README.md does not show " + m.getName(), shown.contains(m.getName()));
            }
        }
    }

    private void addBlock(List<String> lines, int from, int behind) {
        boolean method = lines.get(from).startsWith("static ");
        if (!method) {
            examples.append("{\n");
        }
        for (int i = from; i < behind; i++) {
            if (method) {
                shared.append(lines.get(i)).append('\n');
            } else {
                addLine(lines.get(i), i + 1);
            }
        }
        if (!method) {
            examples.append("}\n");
        }
    }

    private void addLine(String line, int number) {
        Matcher m = ANSWERED.matcher(line);
        if (!m.matches()) {
            due.holds("README.md line " + number + " tells no answer: " + line, PLAIN.matcher(line).matches());
            examples.append(line).append('\n');
            return;
        }
        shown.add(m.group(2));
        answers++;
        String call = m.group(1);
        String due = m.group(3);
        examples.append("{ var got = " + call + "; answer.accept(\"README.md line " + number + ": " + call
                + " answered \" + got + \", README.md says " + due + "\", got == " + due + "); }\n");
    }

    /** Compiles and runs the examples: how many answers were looked at. */
    private int askExamples() throws IOException, ReflectiveOperationException {
        Path place = Files.createTempDirectory("readme");
        try {
            Path source = place.resolve(NAME + ".java");
            Files.writeString(source, "public final class " + NAME + " {\nstatic final int NONE = TornReeds.NONE;\n"
                    + shared + "public static void ask(java.util.function.BiConsumer<String, Boolean> answer) {\n"
                    + examples + "}\n}\n");
            ByteArrayOutputStream said = new ByteArrayOutputStream();
            int compiled = ToolProvider.getSystemJavaCompiler().run(null, said, said, "-cp",
                    System.getProperty("java.class.path"), "-d", place.toString(), source.toString());
            due.holds("README.md: the examples do not compile: " + said, compiled == 0);
            return compiled == 0 ? ask(place) : 0;
        } finally {
            remove(place);
        }
    }

    private static int ask(Path place) throws IOException, ReflectiveOperationException {
        int[] asked = {0};
        BiConsumer<String, Boolean> answer = (what, right) -> {
            asked[0]++;
            due.holds(what, right);
        };
        try (URLClassLoader loader = new URLClassLoader(new URL[] {place.toUri().toURL()})) {
            loader.loadClass(NAME).getMethod("ask", BiConsumer.class).invoke(null, answer);
        }
        return asked[0];
    }

    /** Each test of the project stands in README.md by its name. */
    private static void testsAreNamed(String text) throws IOException {
        try (Stream<Path> files = Files.list(TESTS)) {
            for (Path file : files.sorted().toList()) {
                String name = file.getFileName().toString().replace(".java", "");
                if (name.endsWith("Test")) {
                    due.holds("README.md does not name " + name, text.contains("`" + name + "`"));
                }
            }
        }
    }

    private static void remove(Path place) throws IOException {
        try (Stream<Path> files = Files.walk(place)) {
            for (Path file : files.sorted(Comparator.reverseOrder()).toList()) {
                Files.delete(file);
            }
        }
    }
}
