import java.io.IOException;
import java.nio.file.Files;
import java.nio.file.Path;
import java.util.Arrays;
import java.util.LinkedHashMap;
import java.util.List;
import java.util.Map;
import java.util.Set;

/**
 * DOC.md sentence by sentence: each one that names a boundary has a test that names it. What the
 * tests say is looked up in the document, so that no sentence is misquoted and none left out.
 */
public final class SentencesTest {
    private static final Path DOCUMENT = Path.of("../shared/DOC.md");

    public static void main(String[] args) throws IOException {
        Sentences s = new Sentences(true);
        askAll(s);
        int faults = s.wrong() + s.unasked().size();
        for (String sentence : s.unasked()) {
            System.out.println("nothing was asked of " + sentence);
        }
        if (Files.exists(DOCUMENT)) {
            faults += compare(s.said(), sections(Files.readAllLines(DOCUMENT)));
        } else {
            System.out.println("there is no " + DOCUMENT + " to look the sentences up in");
        }
        int count = 0;
        for (List<String> sentences : s.said().values()) {
            count += sentences.size();
        }
        System.out.println("sentences: " + count + " with " + s.asked() + " answers looked at, " + faults + " wrong");
        if (faults != 0) {
            System.exit(1);
        }
    }

    static void askAll(Sentences s) {
        new BitSentences(s).askAll();
        new SheetSentences(s).askAll();
        new JoinSentences(s).askAll();
        new RollSentences(s).askAll();
    }

    /** Which sentences a test finds broken, for Mutants, which asks this of broken classes. */
    static Set<String> findBroken() {
        Sentences s = new Sentences(false);
        askAll(s);
        return s.broken();
    }

    /** The sections whose sentences are promised, each in one line. */
    private static Map<String, String> sections(List<String> lines) {
        Map<String, String> sections = new LinkedHashMap<>();
        String section = "";
        for (String line : lines) {
            section = sectionFrom(line, section);
            if (!section.isEmpty() && !line.startsWith("#") && !line.startsWith("```")) {
                // A promise's own line begins with the call's face, which RulesTest compares.
                String text = line.replaceFirst("^`[^`]*`: ", "");
                sections.merge(section, text, (known, more) -> known + " " + more);
            }
        }
        sections.replaceAll((name, text) -> inOneLine(text));
        return sections;
    }

    private static String sectionFrom(String line, String section) {
        if (line.startsWith("An object is used")) {
            return "What it is";
        }
        if (line.startsWith("## Promise ")) {
            return line.substring("## ".length(), line.indexOf(':'));
        }
        if (line.startsWith("#") || line.startsWith("Ahead of the calls")) {
            return "";
        }
        if (line.startsWith("The constants:")) {
            return "The constants";
        }
        for (String term : new String[] {"I", "II", "III"}) {
            if (line.startsWith(term + ". ")) {
                return "Terms " + term;
            }
        }
        return section;
    }

    private static String inOneLine(String text) {
        return text.replaceAll("\\s+", " ").strip();
    }

    private static int compare(Map<String, List<String>> said, Map<String, String> sections) {
        int faults = 0;
        for (Map.Entry<String, List<String>> entry : said.entrySet()) {
            for (String sentence : entry.getValue()) {
                if (!sections.getOrDefault(entry.getKey(), "").contains(sentence)) {
                    System.out.println(entry.getKey() + " does not say: " + sentence);
                    faults++;
                }
            }
        }
        for (Map.Entry<String, String> entry : sections.entrySet()) {
            String rest = unsaid(entry.getValue(), said.getOrDefault(entry.getKey(), List.of()));
            if (rest.matches(".*[A-Za-z0-9].*")) {
                System.out.println(entry.getKey() + ": no test names: " + rest);
                faults++;
            }
        }
        return faults;
    }

    /** What is left of a section without the sentences that tests name. */
    private static String unsaid(String text, List<String> sentences) {
        char[] rest = text.toCharArray();
        for (String sentence : sentences) {
            int at = text.indexOf(sentence);
            if (at >= 0) {
                Arrays.fill(rest, at, at + sentence.length(), ' ');
            }
        }
        return inOneLine(new String(rest)).replaceFirst("^I+\\.", "").strip();
    }
}
