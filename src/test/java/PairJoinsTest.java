import java.util.Random;

/**
 * Joins of two BITS, drawn by lot (always the same ones) with many FIBRES, large BITS and few words,
 * each compared with Plain: what it answers, and where all BITS lie then.
 */
public final class PairJoinsTest {
    private static final Due due = new Due("joins of two against Plain");
    private static int laid = 0;
    private static int without = 0;

    private final Random lot;
    private final String title;
    private final TornReeds x = new TornReeds();
    private final Plain plain = new Plain();
    /** How many of ten FIBRES are told, and by how many numbers. */
    private final int told;
    private final int numbers;

    private PairJoinsTest(int seed) {
        lot = Due.lot(seed);
        title = "pair " + seed + ": ";
        told = lot.nextInt(8);
        numbers = 1 + lot.nextInt(2);
    }

    public static void main(String[] args) {
        int pairs = args.length > 0 ? Integer.parseInt(args[0]) : 400;
        int from = args.length > 1 ? Integer.parseInt(args[1]) : 0;
        for (int seed = from; seed < from + pairs && due.wrong() < 20; seed++) {
            new PairJoinsTest(seed).go();
        }
        System.out.println("joins of two: " + laid + " laid, " + without + " without a place");
        due.is("enough were laid", laid > pairs / 2, true);
        due.close();
    }

    private void go() {
        int words = lot.nextInt(4) * lot.nextInt(4);
        for (int i = 0; i < words; i++) {
            tape(signs("ab", 4 + lot.nextInt(7)));
            due.is(title + "word", x.word(), plain.word());
        }
        int lying = 1 + lot.nextInt(3);
        for (int b = 0; b < lying; b++) {
            newBit(b + 3);
            int row = lot.nextInt(14);
            int column = lot.nextInt(28);
            due.is(title + "lay", x.lay(b + 3, row, column), plain.lay(b + 3, row, column));
        }
        int a = lot.nextInt(3);
        int b = 7 + lot.nextInt(3);
        newBit(a);
        newBit(b);
        boolean turned = lot.nextBoolean();
        int got = turned ? x.join(b, a) : x.join(a, b);
        due.is(title + "join", got, turned ? plain.join(b, a) : plain.join(a, b));
        laid += got >= 0 ? 1 : 0;
        without += got == -2 ? 1 : 0;
        for (int n = 0; n < 10; n++) {
            due.is(title + "row of " + n, x.place(n, 0), plain.place(n, 0));
            due.is(title + "column of " + n, x.place(n, 1), plain.place(n, 1));
        }
        due.is(title + "worth", x.worth(), plain.worth());
        // No more than an object's 512 calls can be asked of it.
        for (int n = 0; n < 120; n++) {
            int row = lot.nextInt(16);
            int column = lot.nextInt(32);
            due.is(title + "sheet", x.sheet(row, column), plain.sheet(row, column));
            due.is(title + "whose", x.whose(row, column), plain.whose(row, column));
        }
    }

    private void tape(String text) {
        x.end(0);
        plain.end(0);
        for (int[] f : Due.feeds(text)) {
            due.is(title + "feed", x.feed(f[0], f[1], f[2], f[3], f[4]), plain.feed(f[0], f[1], f[2], f[3], f[4]));
        }
        due.is(title + "end", x.end(text.length()), plain.end(text.length()));
    }

    private String signs(String from, int length) {
        StringBuilder s = new StringBuilder();
        for (int i = 0; i < length; i++) {
            s.append(from.charAt(lot.nextInt(from.length())));
        }
        return s.toString();
    }

    /** A small BIT, or one that is as high or as wide as can be. */
    private void newBit(int b) {
        int rows = lot.nextInt(4) == 0 ? 5 : 1 + lot.nextInt(3);
        int columns = lot.nextInt(4) == 0 ? 10 : 1 + lot.nextInt(3);
        String from = lot.nextInt(3) == 0 ? "ab.,__" : "._,";
        StringBuilder s = new StringBuilder();
        for (int r = 0; r < rows; r++) {
            s.append(r > 0 ? ";" : "").append(signs(from, columns));
        }
        tape(s.toString());
        due.is(title + "bit " + s, x.bit(b), plain.bit(b));
        for (int i = 0; i < rows + columns; i++) {
            boolean across = i < rows;
            int lane = across ? i : i - rows;
            int v = lot.nextInt(10) < told ? 1 + lot.nextInt(numbers) : 0;
            due.is(title + "fibre", x.fibre(b, across, lane, v), plain.fibre(b, across, lane, v));
        }
    }
}
