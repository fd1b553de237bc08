/** The dearest calls that could be thought of, some hundreds of them: far from the bound that is set. */
public final class CostTest {
    private static final long MOST_SECONDS = 120;
    private static final Due due = new Due("costs");

    public static void main(String[] args) {
        long start = System.nanoTime();
        joinsOfSmallOnes();
        joinsAgainstWords();
        widths();
        long seconds = (System.nanoTime() - start) / 1_000_000_000L;
        System.out.println("costs: " + seconds + " seconds");
        due.is("within " + MOST_SECONDS + " seconds", seconds <= MOST_SECONDS, true);
        due.close();
    }

    /** Many places for both, and many of them touch. */
    private static void joinsOfSmallOnes() {
        TornReeds x = new TornReeds();
        for (int b = 0; b < 6; b++) {
            Due.bit(x, b, "._._._._._;;._._._._._;;._._._._._");
            due.is("laid", x.lay(b, b / 2 * 5, b % 2 * 20), true);
        }
        Due.bit(x, 8, ".");
        Due.bit(x, 9, ".");
        joinOften(x, 20 + 2 + 2 + 1);
    }

    /** Each BIT alone may lie at many places, but side by side in a ROW they make no word. */
    private static void joinsAgainstWords() {
        TornReeds x = new TornReeds();
        for (int n = 0; n < 12; n++) {
            Due.word(x, n % 2 == 0 ? "aaaaaaaaaa" : "bbbbbbbbbb");
        }
        for (int b = 0; b < 6; b++) {
            Due.bit(x, b, ",,,,,,,,,,");
            due.is("laid", x.lay(b, 5 + b / 3 * 6, b % 3 * 10), true);
        }
        Due.bit(x, 8, "a_a;a_a;a_a;a_a;a_a");
        Due.bit(x, 9, "_b;_b;_b;_b;_b");
        joinOften(x, 4 + 4 + 2);
    }

    private static void joinOften(TornReeds x, int worth) {
        for (int n = 0; n < 160; n++) {
            due.is("joined", x.join(8, 9), worth);
            x.take(8);
            x.take(9);
        }
    }

    private static void widths() {
        TornReeds x = new TornReeds();
        Due.bit(x, 0, "..........;..........;..........;..........;..........");
        Due.known(x, "a".repeat(200));
        for (int n = 0; n < 400; n++) {
            due.is("most often", x.width(0, 2, 60) > 0, true);
        }
    }
}
