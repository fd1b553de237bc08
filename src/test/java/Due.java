import java.nio.charset.StandardCharsets;
import java.util.Arrays;
import java.util.Random;

/** What the tests share: counting wrong answers, and writing texts on a tape. */
final class Due {
    private static final int FEED_BYTES = 20;

    private final String title;
    private int asked = 0;
    private int wrong = 0;

    Due(String title) {
        this.title = title;
    }

    void is(String what, long got, long want) {
        asked++;
        if (got != want) {
            wrong++;
            System.out.println(what + " answered " + got + ", due is " + want);
        }
    }

    void is(String what, boolean got, boolean want) {
        is(what, got ? 1L : 0L, want ? 1L : 0L);
    }

    /** Counts a look at something, and tells a fault unless it is right. */
    void holds(String fault, boolean right) {
        asked++;
        if (!right) {
            wrong++;
            System.out.println(fault);
        }
    }

    int wrong() {
        return wrong;
    }

    void close() {
        System.out.println(title + ": " + asked + " answers looked at, " + wrong + " wrong");
        if (wrong != 0) {
            System.exit(1);
        }
    }

    /** A seed's lot; seeds that follow each other would draw alike at first, so they are spread. */
    static Random lot(int seed) {
        return new Random(seed * 0x9E3779B97F4A7C15L);
    }

    /** The five numbers of each feed that a text takes, filled up with blanks. */
    static int[][] feeds(String text) {
        byte[] bytes = text.getBytes(StandardCharsets.ISO_8859_1);
        int count = (bytes.length + FEED_BYTES - 1) / FEED_BYTES;
        int[][] feeds = new int[count][5];
        byte[] padded = Arrays.copyOf(bytes, count * FEED_BYTES);
        Arrays.fill(padded, bytes.length, padded.length, (byte) ' ');
        for (int i = 0; i < padded.length; i++) {
            int feed = i / FEED_BYTES;
            int number = i % FEED_BYTES / 4;
            feeds[feed][number] = feeds[feed][number] << 8 | padded[i] & 255;
        }
        return feeds;
    }

    /** Puts a text on a tape in place of what was there. */
    static void tape(TornReeds x, String text) {
        x.end(0);
        for (int[] f : feeds(text)) {
            x.feed(f[0], f[1], f[2], f[3], f[4]);
        }
        x.end(text.length());
    }

    static int bit(TornReeds x, int b, String text) {
        tape(x, text);
        return x.bit(b);
    }

    static int word(TornReeds x, String text) {
        tape(x, text);
        return x.word();
    }

    static int known(TornReeds x, String text) {
        tape(x, text);
        return x.known();
    }
}
