import java.util.ArrayList;
import java.util.LinkedHashMap;
import java.util.LinkedHashSet;
import java.util.List;
import java.util.Map;
import java.util.Set;

/**
 * Ties answers to sentences of DOC.md: a test says, word for word, which sentence it stands for, and
 * every answer that follows counts for that one.
 */
final class Sentences {
    /** What was said of each section of the document, in the order in which it was said. */
    private final Map<String, List<String>> said = new LinkedHashMap<>();
    private final Set<String> unasked = new LinkedHashSet<>();
    private final Set<String> broken = new LinkedHashSet<>();
    private final boolean loud;
    private String current = "";
    private int asked = 0;
    private int wrong = 0;

    Sentences(boolean loud) {
        this.loud = loud;
    }

    void says(String section, String sentence) {
        said.computeIfAbsent(section, name -> new ArrayList<>()).add(sentence);
        current = section + ", \"" + sentence + "\"";
        unasked.add(current);
    }

    void is(String what, long got, long want) {
        asked++;
        unasked.remove(current);
        if (got != want) {
            wrong++;
            broken.add(current);
            if (loud) {
                System.out.println(current + ": " + what + ": answered " + got + ", due is " + want);
            }
        }
    }

    void is(String what, boolean got, boolean want) {
        is(what, got ? 1L : 0L, want ? 1L : 0L);
    }

    /** Asks of a BIT where it lies: its row and column. */
    void lies(String what, TornReeds x, int b, int row, int column) {
        is(what + ", its row", x.place(b, 0), row);
        is(what + ", its column", x.place(b, 1), column);
    }

    Map<String, List<String>> said() {
        return said;
    }

    Set<String> broken() {
        return broken;
    }

    Set<String> unasked() {
        return unasked;
    }

    int asked() {
        return asked;
    }

    int wrong() {
        return wrong;
    }
}
