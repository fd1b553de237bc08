import java.util.Arrays;
import java.util.Random;

/**
 * Long runs of calls drawn by lot (always the same ones), each answer compared with that of Plain.
 * Letters, words, FIBRES and places are drawn from few, so that BITS meet, agree and QUARREL often.
 */
public final class PlainRunsTest {
    private static final int[] WILD = {
        Integer.MIN_VALUE, Integer.MIN_VALUE + 1, -1001, -11, -10, -9, -5, -4, -2, -1, 0, 1, 2, 4, 5, 9, 10, 15, 16,
        31, 32, 60, 61, 99, 100, 101, 200, 1000, 1001, 2000, 2001, Integer.MAX_VALUE - 4, Integer.MAX_VALUE
    };

    /** An object is used for so many calls, the last of them to look at THE SHEET. */
    private static final int CALLS = 512;
    private static final int LAST_CALLS = 60;

    private static final Due due = new Due("runs against Plain");
    /** Of each promise, and of joins of two (0): how many answers were below -1, -1, 0, and above. */
    private static final int[][] answers = new int[26][4];

    private final Random lot;
    private final String title;
    private final TornReeds x = new TornReeds();
    private final Plain plain = new Plain();
    /** What the runs are about: the more of one kind of call, the less of the others. */
    private final String letters;
    private final int bits;
    private final int pairs;
    private final int words;
    private final boolean wordsFirst;
    /** How many calls the object has had. */
    private int calls = 0;

    private PlainRunsTest(int seed, String letters, int bits, int pairs, int words) {
        this.lot = Due.lot(seed);
        this.title = "run " + seed + ": ";
        this.letters = letters;
        this.bits = bits;
        this.pairs = pairs;
        this.words = words;
        this.wordsFirst = seed % 5 > 0;
    }

    public static void main(String[] args) {
        int runs = args.length > 0 ? Integer.parseInt(args[0]) : 300;
        int from = args.length > 1 ? Integer.parseInt(args[1]) : 0;
        for (int seed = from; seed < from + runs && due.wrong() < 20; seed++) {
            String letters = seed % 3 == 0 ? "ab" : seed % 3 == 1 ? "abc" : "a";
            new PlainRunsTest(seed, letters, 3 + seed % 8, 3, seed % 4 * 4).go();
        }
        for (int promise = 0; promise < answers.length; promise++) {
            System.out.println("promise " + promise + ": " + Arrays.toString(answers[promise]));
        }
        due.close();
    }

    private void go() {
        int pairsLeft = pairs;
        int wordsLeft = words;
        // Words that come late make wrong RUNS of what lies; in other runs they are there at once.
        while (wordsLeft > 1 && wordsFirst) {
            wordsLeft--;
            newWord();
        }
        setOut();
        while (calls < CALLS - LAST_CALLS) {
            int kind = lot.nextInt(40);
            if (kind < 3) {
                newBit();
            } else if (kind == 3 && wordsLeft > 0 && lot.nextInt(3) == 0) {
                wordsLeft--;
                newWord();
            } else if (kind < 12) {
                layOrTake();
            } else if (kind < 22) {
                look();
            } else if (kind == 22 && pairsLeft > 0 && (count(true) > 0 && count(false) > 1 || lot.nextInt(20) == 0)) {
                pairsLeft--;
                joinTwo();
            } else if (kind < 26) {
                joinOne();
            } else if (kind < 32) {
                rolls();
            } else if (kind < 39) {
                texts();
            } else {
                wild();
            }
        }
        whole();
    }

    /** In most runs there is something to ask about from the beginning. */
    private void setOut() {
        for (int n = 0; n < bits && lot.nextInt(8) > 0; n++) {
            newBit();
            layOrTake();
        }
        if (lot.nextInt(4) > 0) {
            newText();
            is(18, "roll", p -> p ? x.roll(5 + one, other % 3) : plain.roll(5 + one, other % 3));
            newHole();
            newHole();
        }
    }

    private interface Ask {
        long of(boolean program);
    }

    private int one;
    private int other;
    private int three;

    private void is(int promise, String what, Ask ask) {
        one = bitNumber();
        other = bitNumber();
        three = lot.nextInt(8);
        if (calls >= CALLS) {
            // What the object answers now is free.
            return;
        }
        calls++;
        long got = ask.of(true);
        answers[promise][got < -1 ? 0 : got < 0 ? 1 : got == 0 ? 2 : 3]++;
        due.is(title + what + " " + one + " " + other + " " + three, got, ask.of(false));
    }

    private int bitNumber() {
        return lot.nextInt(60) == 0 ? wildNumber() : lot.nextInt(bits);
    }

    private int wildNumber() {
        return WILD[lot.nextInt(WILD.length)];
    }

    private String draw(String signs, int least, int most) {
        StringBuilder s = new StringBuilder();
        int length = least + lot.nextInt(most - least + 1);
        for (int i = 0; i < length; i++) {
            s.append(signs.charAt(lot.nextInt(signs.length())));
        }
        return s.toString();
    }

    private void tape(String text) {
        for (int[] f : Due.feeds(text)) {
            is(2, "feed", p -> p ? x.feed(f[0], f[1], f[2], f[3], f[4]) : plain.feed(f[0], f[1], f[2], f[3], f[4]));
        }
        int n = lot.nextInt(40) == 0 ? wildNumber() : text.length();
        is(3, "end " + n, p -> (p ? x.end(n) : plain.end(n)) ? 1 : 0);
    }

    private void newBit() {
        int rows = 1 + lot.nextInt(lot.nextInt(10) == 0 ? 6 : 3);
        int most = lot.nextInt(10) == 0 ? 11 : 4;
        StringBuilder s = new StringBuilder();
        for (int r = 0; r < rows; r++) {
            s.append(r == 0 ? "" : ";").append(draw(letters + letters + ".,__", 0, most));
        }
        if (lot.nextInt(30) == 0) {
            s.append(draw("A{`-/0 ;", 1, 1));
        }
        tape(s.toString());
        is(4, "bit of " + s, p -> p ? x.bit(one) : plain.bit(one));
        int fibres = lot.nextInt(4);
        for (int i = 0; i < fibres; i++) {
            newFibre();
        }
    }

    private void newFibre() {
        int v = lot.nextInt(20) == 0 ? wildNumber() : lot.nextInt(3);
        int i = lot.nextInt(40) == 0 ? wildNumber() : lot.nextInt(4);
        boolean across = lot.nextBoolean();
        is(6, "fibre " + across + " " + i + " " + v,
                p -> p ? x.fibre(one, across, i, v) : plain.fibre(one, across, i, v));
    }

    private void newWord() {
        tape(lot.nextInt(10) == 0 ? draw(letters + ".", 0, 11) : draw(letters, 1 + lot.nextInt(9), 10));
        is(7, "word", p -> p ? x.word() : plain.word());
    }

    private void layOrTake() {
        int row = lot.nextInt(12) == 0 ? lot.nextInt(22) - 5 : 4 + lot.nextInt(6);
        int column = lot.nextInt(12) == 0 ? lot.nextInt(44) - 10 : 10 + lot.nextInt(8);
        int edge = lot.nextInt(3);
        int at = edge == 0 ? lot.nextInt(4) - 2 : edge == 1 ? 27 + lot.nextInt(6) : column;
        if (lot.nextInt(4) == 0) {
            is(9, "take", p -> (p ? x.take(one) : plain.take(one)) ? 1 : 0);
        } else {
            is(8, "lay " + row + " " + at, p -> (p ? x.lay(one, row, at) : plain.lay(one, row, at)) ? 1 : 0);
        }
    }

    private void look() {
        int seen = lot.nextInt(bits);
        boolean near = plain.lies(seen) && lot.nextInt(5) > 0;
        int row = near ? plain.place(seen, 0) + lot.nextInt(3) : wildNumber();
        int column = near ? plain.place(seen, 1) + lot.nextInt(4) : wildNumber();
        int k = lot.nextInt(5) - 1;
        is(5, "cell", p -> p ? x.cell(one, three - 1, other) : plain.cell(one, three - 1, other));
        is(10, "place", p -> p ? x.place(one, three - 2) : plain.place(one, three - 2));
        is(11, "sheet " + row + " " + column, p -> p ? x.sheet(row, column) : plain.sheet(row, column));
        is(12, "whose " + row + " " + column, p -> p ? x.whose(row, column) : plain.whose(row, column));
        is(13, "words " + row + " " + column, p -> p ? x.words(row, column) : plain.words(row, column));
        is(14, "read " + row + " " + column + " " + k, p -> p ? x.read(row, column, k) : plain.read(row, column, k));
        is(15, "worth", p -> p ? x.worth() : plain.worth());
    }

    /** How many BITS there are that lie, or that do not. */
    private int count(boolean lie) {
        int found = 0;
        for (int b = 0; b < 10; b++) {
            found += plain.isBit(b) && plain.lies(b) == lie ? 1 : 0;
        }
        return found;
    }

    /** A BIT that could be joined, if the lot finds one soon. */
    private int looseBit() {
        int b = bitNumber();
        for (int i = 0; i < 20 && (!plain.isBit(b) || plain.lies(b)); i++) {
            b = bitNumber();
        }
        return b;
    }

    private void joinTwo() {
        int a = looseBit();
        int drawn = looseBit();
        for (int i = 0; i < 10 && drawn == a; i++) {
            drawn = looseBit();
        }
        int b = drawn;
        is(0, "join " + a + " " + b, p -> p ? x.join(a, b) : plain.join(a, b));
        is(15, "worth", p -> p ? x.worth() : plain.worth());
        is(10, "place", p -> p ? x.place(a, 0) : plain.place(a, 0));
        is(10, "place", p -> p ? x.place(a, 1) : plain.place(a, 1));
        is(10, "place", p -> p ? x.place(b, 0) : plain.place(b, 0));
        is(10, "place", p -> p ? x.place(b, 1) : plain.place(b, 1));
        if (lot.nextInt(3) > 0) {
            is(9, "take " + a, p -> (p ? x.take(a) : plain.take(a)) ? 1 : 0);
            is(9, "take " + b, p -> (p ? x.take(b) : plain.take(b)) ? 1 : 0);
        }
    }

    private void joinOne() {
        int a = looseBit();
        is(17, "joins " + a, p -> p ? x.joins(a) : plain.joins(a));
        is(16, "join " + a, p -> p ? x.join(a, -1) : plain.join(a, -1));
        is(10, "place", p -> p ? x.place(a, 0) : plain.place(a, 0));
        is(10, "place", p -> p ? x.place(a, 1) : plain.place(a, 1));
        is(15, "worth", p -> p ? x.worth() : plain.worth());
    }

    private void rolls() {
        int kind = lot.nextInt(6);
        int gap = lot.nextInt(3) == 0 ? wildNumber() : 1 + lot.nextInt(12);
        int step = lot.nextInt(6) == 0 ? wildNumber() : lot.nextInt(3);
        if (kind == 0) {
            is(18, "roll " + gap + " " + step, p -> p ? x.roll(gap, step) : plain.roll(gap, step));
        } else if (kind == 1) {
            newHole();
        } else {
            is(20, "stood", p -> p ? x.stood(one) : plain.stood(one));
            is(21, "standing", p -> p ? x.standing(one, three - 1) : plain.standing(one, three - 1));
        }
    }

    private void newHole() {
        int distance = lot.nextInt(20) == 0 ? wildNumber() : lot.nextInt(12);
        is(19, "hole " + distance, p -> p ? x.hole(one, distance) : plain.hole(one, distance));
    }

    private void newText() {
        tape(draw(letters, lot.nextInt(8) == 0 ? 0 : 1, lot.nextInt(4) == 0 ? 200 : 30));
        is(22, "known", p -> p ? x.known() : plain.known());
    }

    private void texts() {
        int w = lot.nextInt(20) == 0 ? wildNumber() : 2 + lot.nextInt(lot.nextInt(3) == 0 ? 59 : 12);
        int to = lot.nextInt(20) == 0 ? wildNumber() : w + lot.nextInt(6) - 1;
        int kind = lot.nextInt(8);
        if (kind == 0) {
            newText();
        } else {
            is(23, "stands " + w, p -> p ? x.stands(one, w) : plain.stands(one, w));
            is(24, "letter " + w, p -> p ? x.letter(one, w, three - 1) : plain.letter(one, w, three - 1));
            is(25, "width " + w + " " + to, p -> p ? x.width(one, w, to) : plain.width(one, w, to));
        }
    }

    /** Numbers that no place, BIT or width has; joins of two are left to go(), as they take Plain long. */
    private void wild() {
        int a = wildNumber();
        int b = wildNumber();
        int c = wildNumber();
        is(5, "cell", p -> p ? x.cell(a, b, c) : plain.cell(a, b, c));
        is(6, "fibre", p -> p ? x.fibre(a, b > 0, c, b) : plain.fibre(a, b > 0, c, b));
        is(8, "lay " + a + " " + b, p -> (p ? x.lay(one, a, b) : plain.lay(one, a, b)) ? 1 : 0);
        is(10, "place " + a, p -> p ? x.place(one, a) : plain.place(one, a));
        is(14, "read", p -> p ? x.read(a, b, c) : plain.read(a, b, c));
        is(17, "joins " + a, p -> p ? x.joins(a) : plain.joins(a));
        is(21, "standing " + a, p -> p ? x.standing(one, a) : plain.standing(one, a));
        is(24, "letter " + a + " " + b, p -> p ? x.letter(one, a, b) : plain.letter(one, a, b));
        is(25, "width " + a + " " + b, p -> p ? x.width(one, a, b) : plain.width(one, a, b));
    }

    /** Looks at CELLS until the object has had all of its calls: half of them where BITS lie mostly. */
    private void whole() {
        while (calls < CALLS) {
            int row = lot.nextBoolean() ? 4 + lot.nextInt(6) : lot.nextInt(16);
            int column = lot.nextBoolean() ? 8 + lot.nextInt(12) : lot.nextInt(32);
            is(11, "sheet at last", p -> p ? x.sheet(row, column) : plain.sheet(row, column));
            is(12, "whose at last", p -> p ? x.whose(row, column) : plain.whose(row, column));
            is(13, "words at last", p -> p ? x.words(row, column) : plain.words(row, column));
        }
    }
}
