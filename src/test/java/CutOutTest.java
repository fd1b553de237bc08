import java.util.Random;

/**
 * BITS cut out of rolls and known texts, drawn by lot (always the same ones), and sometimes spoilt a
 * little, so that they often stood there; every answer is compared with that of Plain.
 */
public final class CutOutTest {
    private static final Due due = new Due("cut out, against Plain");
    private static int stood = 0;
    private static int stand = 0;

    private final Random lot;
    private final String title;
    private final TornReeds x = new TornReeds();
    private final Plain plain = new Plain();

    private CutOutTest(int seed) {
        lot = Due.lot(seed);
        title = "cut " + seed + ": ";
    }

    public static void main(String[] args) {
        int cuts = args.length > 0 ? Integer.parseInt(args[0]) : 400;
        int from = args.length > 1 ? Integer.parseInt(args[1]) : 0;
        for (int seed = from; seed < from + cuts && due.wrong() < 20; seed++) {
            CutOutTest cut = new CutOutTest(seed);
            cut.holesOfARoll();
            cut.linesOfAText();
        }
        System.out.println("cut out: " + stood + " that stood in a roll, " + stand + " that stand in a text");
        due.holds("enough stood", stood > cuts / 2);
        due.holds("enough stand", stand > cuts / 2);
        due.close();
    }

    private int upTo(int few, int many) {
        return lot.nextInt(lot.nextBoolean() ? few : many);
    }

    private void holesOfARoll() {
        int gap = 1 + upTo(12, 1000);
        int step = upTo(4, 101);
        int count = plain.roll(gap, step);
        is("roll", x.roll(gap, step), count);
        bit(0, "a");
        int first = lot.nextInt(count);
        int behind = Math.min(count, first + 1 + lot.nextInt(7));
        int place = holeAt(first, gap, step) - lot.nextInt(gap + 1);
        for (int i = first; i < behind; i++) {
            if (lot.nextInt(12) > 0) {
                int distance = holeAt(i, gap, step) - place + (lot.nextInt(25) == 0 ? 1 : 0);
                is("hole " + distance, x.hole(0, distance), plain.hole(0, distance));
                places();
            }
        }
    }

    /** The HOLE's place: n gaps, less 0, 1, 2, .. steps. */
    private static int holeAt(int n, int gap, int step) {
        return n * gap - step * (n * (n - 1) / 2);
    }

    private void places() {
        int places = plain.stood(0);
        is("stood", x.stood(0), places);
        stood += places > 0 ? 1 : 0;
        for (int k = -1; k < 5; k++) {
            is("standing " + k, x.standing(0, k), plain.standing(0, k));
        }
        is("standing last", x.standing(0, places - 1), plain.standing(0, places - 1));
    }

    private void linesOfAText() {
        String text = text(1 + lot.nextInt(200), 1 + lot.nextInt(4));
        int w = 2 + upTo(9, 59);
        tape(text);
        is("known", x.known(), plain.known());
        bit(1, cutOf(text, w));
        for (int v = 1; v <= 61; v++) {
            int times = plain.stands(1, v);
            is("stands " + v, x.stands(1, v), times);
            stand += v == w && times > 0 ? 1 : 0;
        }
        for (int k = -1; k <= Math.max(1, plain.stands(1, w)); k++) {
            is("letter " + k, x.letter(1, w, k), plain.letter(1, w, k));
        }
        int from = lot.nextInt(63);
        int to = lot.nextInt(63);
        is("width " + from + " to " + to, x.width(1, from, to), plain.width(1, from, to));
        is("width", x.width(1, 2, 60), plain.width(1, 2, 60));
    }

    private String text(int length, int letters) {
        StringBuilder text = new StringBuilder();
        for (int i = 0; i < length; i++) {
            text.append((char) ('a' + lot.nextInt(letters)));
        }
        return text.toString();
    }

    /** A BIT's text cut out of lines, beginning anywhere, even ahead of the first line or letter. */
    private String cutOf(String text, int w) {
        int at = lot.nextInt(text.length() + 2 * w + 2) - w - 1;
        int rows = 1 + lot.nextInt(5);
        int columns = 1 + lot.nextInt(10);
        StringBuilder cut = new StringBuilder();
        for (int r = 0; r < rows; r++) {
            cut.append(r > 0 ? ";" : "");
            for (int c = 0; c < columns; c++) {
                int i = at + r * w + c;
                boolean inLine = i >= 0 && i < text.length() && Math.floorDiv(i, w) == Math.floorDiv(at, w) + r;
                cut.append(inLine ? signFor(text.charAt(i)) : signBeyond());
            }
        }
        return cut.toString();
    }

    private char signFor(char letter) {
        int kind = lot.nextInt(8);
        return kind == 0 ? '_' : kind == 1 ? ',' : kind == 2 ? '.' : letter;
    }

    /** Beyond the line or the text there is mostly no letter. */
    private char signBeyond() {
        return lot.nextInt(30) == 0 ? 'a' : lot.nextBoolean() ? '_' : ',';
    }

    private void bit(int b, String text) {
        tape(text);
        is("bit " + text, x.bit(b), plain.bit(b));
    }

    private void tape(String text) {
        Due.tape(x, text);
        plain.end(0);
        for (int[] f : Due.feeds(text)) {
            plain.feed(f[0], f[1], f[2], f[3], f[4]);
        }
        plain.end(text.length());
    }

    private void is(String what, int got, int want) {
        due.is(title + what, got, want);
    }
}
