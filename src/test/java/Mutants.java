import java.io.File;
import java.io.IOException;
import java.nio.file.Files;
import java.nio.file.Path;
import java.util.ArrayList;
import java.util.List;
import java.util.Map;
import java.util.Set;
import java.util.TreeMap;
import java.util.TreeSet;
import java.util.concurrent.ExecutorService;
import java.util.concurrent.Executors;
import java.util.concurrent.TimeUnit;
import java.util.regex.Matcher;
import java.util.regex.Pattern;
import java.util.stream.Stream;
import javax.tools.ToolProvider;

/**
 * Run by hand, from the project's root: breaks the class in one place after the other and lets
 * SentencesTest look for it. Prints each broken class that no sentence finds, and, of each sentence,
 * how many broken classes its test finds, with the one that fewest others find.
 */
public final class Mutants {
    private static final Path PROGRAM = Path.of("src/main/java/TornReeds.java");
    private static final int SECONDS = 60;
    /** What is looked for, and what comes in its place. */
    private static final String[][] CHANGES = {
        {"(?<![<=>-])<(?![<=])", "<="}, {"<=", "<"}, {"(?<![>-])>(?![>=])", ">="}, {"(?<!>)>=", ">"},
        {"==", "!="}, {"!=", "=="}, {"&&", "||"}, {"\\|\\|", "&&"}, {"!(?=[a-z])", ""},
        {" \\+ ", " - "}, {" - ", " + "}, {" \\* ", " + "}, {"\\+\\+", "--"}, {"--", "++"}, {"\\+=", "-="}, {"-=", "+="},
        {" & ", " | "}, {"\\|=", "="}, {"&=", "="}, {"<<", ">>"}, {">>>", "<<"}, {"\\btrue\\b", "false"},
        {"\\bfalse\\b", "true"}, {"'a'", "'b'"}, {"'z'", "'y'"}, {"'\\.'", "'!'"}, {"','", "'!'"}, {"'_'", "'!'"},
        {"';'", "'!'"}, {"Math.max", "Math.min"}, {"Math.floorMod\\(i, w\\)", "(i % w)"},
        {"^ +[a-z][A-Za-z.\\[\\]0-9]*(\\(.*\\)|\\+\\+|--| [+|&-]?= .*);$", ""}, {"^ +(continue|break);$", ""},
    };

    private static final List<String> unfound = new ArrayList<>();
    private static final Map<String, Integer> finds = new TreeMap<>();
    private static final Map<String, Integer> fewest = new TreeMap<>();
    private static final Map<String, String> nearest = new TreeMap<>();
    private static int tried = 0;

    private static Path own;

    public static void main(String[] args) throws IOException, InterruptedException {
        if (args.length == 1 && args[0].equals("look")) {
            SentencesTest.findBroken().forEach(System.out::println);
            return;
        }
        own = Files.createTempDirectory("mutants");
        copyTests();
        List<String> lines = Files.readAllLines(PROGRAM);
        ExecutorService workers = Executors.newFixedThreadPool(Runtime.getRuntime().availableProcessors());
        for (int i = 0; i < lines.size(); i++) {
            int line = i;
            for (String broken : mutantsOf(lines.get(i))) {
                workers.submit(() -> tryOut(lines, line, broken));
            }
        }
        workers.shutdown();
        workers.awaitTermination(3, TimeUnit.HOURS);
        tell();
    }

    private static void tell() {
        Sentences all = new Sentences(false);
        SentencesTest.askAll(all);
        Set<String> said = new TreeSet<>();
        all.said().forEach((section, sentences) -> sentences.forEach(s -> said.add(section + ", \"" + s + "\"")));
        for (String sentence : said) {
            System.out.println(finds.getOrDefault(sentence, 0) + " found by " + sentence);
            System.out.println("    with " + fewest.get(sentence) + " in all: " + nearest.get(sentence));
        }
        unfound.sort(null);
        unfound.forEach(System.out::println);
        System.out.println(tried + " broken classes, " + unfound.size() + " not found by any sentence");
    }

    /** Every way to break a line of the program at one spot. */
    private static List<String> mutantsOf(String line) {
        List<String> broken = new ArrayList<>();
        if (line.strip().startsWith("*") || line.strip().startsWith("/")) {
            return broken;
        }
        for (String[] change : CHANGES) {
            Matcher m = Pattern.compile(change[0]).matcher(line);
            while (m.find()) {
                broken.add(line.substring(0, m.start()) + change[1] + line.substring(m.end()));
            }
        }
        Matcher number = Pattern.compile("(?<![A-Za-z_'\"])[0-9]+(?![A-Za-z_0-9'])").matcher(line);
        while (number.find()) {
            int n = Integer.parseInt(number.group());
            broken.add(line.substring(0, number.start()) + (n + 1) + line.substring(number.end()));
            broken.add(line.substring(0, number.start()) + (n - 1) + line.substring(number.end()));
        }
        return broken;
    }

    private static void tryOut(List<String> lines, int line, String broken) {
        try {
            Path place = Files.createTempDirectory(own, "m");
            List<String> changed = new ArrayList<>(lines);
            changed.set(line, broken);
            Path source = place.resolve("TornReeds.java");
            Files.write(source, changed);
            File nothing = place.resolve("said").toFile();
            int compiled = ToolProvider.getSystemJavaCompiler().run(null, Files.newOutputStream(nothing.toPath()),
                    Files.newOutputStream(nothing.toPath()), "-nowarn", "-d", place.toString(), source.toString());
            if (compiled == 0) {
                note(line, broken, look(place));
            }
            remove(place);
        } catch (IOException | InterruptedException e) {
            System.out.println("line " + (line + 1) + " could not be tried: " + e);
        }
    }

    /** What the sentences' tests find, in a machine of their own, as a broken class may never end. */
    private static List<String> look(Path place) throws IOException, InterruptedException {
        Path said = place.resolve("found");
        Process looking = new ProcessBuilder("java", "-XX:TieredStopAtLevel=1", "-XX:+UseSerialGC",
                "-cp", place + File.pathSeparator + own.resolve("tests"), "Mutants", "look")
                .redirectErrorStream(true).redirectOutput(said.toFile()).start();
        if (!looking.waitFor(SECONDS, TimeUnit.SECONDS)) {
            looking.destroyForcibly().waitFor();
            return List.of("no end");
        }
        return Files.readAllLines(said);
    }

    private static synchronized void note(int line, String broken, List<String> found) {
        tried++;
        String what = "line " + (line + 1) + ": " + broken.strip();
        if (found.isEmpty()) {
            unfound.add("NOT FOUND " + what);
        }
        for (String sentence : found) {
            finds.merge(sentence, 1, Integer::sum);
            if (found.size() < fewest.getOrDefault(sentence, Integer.MAX_VALUE)) {
                fewest.put(sentence, found.size());
                nearest.put(sentence, what);
            }
        }
    }

    /** The tests' own classes without the whole one, so that a broken one is not behind it. */
    private static void copyTests() throws IOException {
        Path tests = Files.createDirectory(own.resolve("tests"));
        Path here = Path.of(System.getProperty("java.class.path"));
        try (Stream<Path> files = Files.list(here)) {
            for (Path file : files.toList()) {
                if (!file.getFileName().toString().startsWith("TornReeds")) {
                    Files.copy(file, tests.resolve(file.getFileName()));
                }
            }
        }
    }

    private static void remove(Path place) throws IOException {
        try (Stream<Path> files = Files.list(place)) {
            for (Path file : files.toList()) {
                Files.delete(file);
            }
        }
        Files.delete(place);
    }
}
