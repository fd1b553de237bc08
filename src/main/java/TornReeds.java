/**
 * A bench for torn papyri: bits are laid on a sheet, joined to those that lie, and looked for in
 * rolls and known texts. What each call does is told by the promises of DOC.md.
 */
public final class TornReeds {
    public static final int NONE = -1;

    private static final int NO_JOIN = -2;
    private static final int NO_LETTER = -1000;

    private static final int BITS = 10;
    private static final int BIT_ROWS = 5;
    private static final int BIT_COLUMNS = 10;
    private static final int BIT_CELLS = BIT_ROWS * BIT_COLUMNS;
    private static final int MOST_FIBRE = 99;
    private static final int MOST_HOLES = 6;
    private static final int MOST_DISTANCE = 2000;

    private static final int SHEET_ROWS = 16;
    private static final int SHEET_COLUMNS = 32;
    private static final int SHEET_CELLS = SHEET_ROWS * SHEET_COLUMNS;

    private static final int TAPE_BYTES = 200;
    private static final int FEED_BYTES = 20;

    private static final int MOST_WORDS = 12;
    private static final int MOST_WORD_LETTERS = 10;

    private static final int MOST_GAP = 1000;
    private static final int MOST_STEP = 100;
    private static final int MOST_ROLL_HOLES = 40;

    private static final int LEAST_WIDTH = 2;
    private static final int MOST_WIDTH = 60;

    private final Tape tape;
    private final Bit[] bits;
    private final WordList list;
    private final Sheet papyrus;
    private final Search search;
    private final Roll worms;
    private final KnownText text;

    public TornReeds() {
        tape = new Tape();
        bits = new Bit[BITS];
        for (int b = 0; b < BITS; b++) {
            bits[b] = new Bit(b);
        }
        list = new WordList();
        papyrus = new Sheet();
        search = new Search();
        worms = new Roll();
        text = new KnownText();
    }

    public int feed(int a, int b, int c, int d, int e) {
        if (tape.length + FEED_BYTES > TAPE_BYTES) {
            return NONE;
        }
        tape.append(a);
        tape.append(b);
        tape.append(c);
        tape.append(d);
        tape.append(e);
        return tape.length;
    }

    public boolean end(int n) {
        if (n < 0 || n > tape.length) {
            return false;
        }
        tape.length = n;
        return true;
    }

    public int bit(int b) {
        int cells = b < 0 || b >= BITS ? NONE : Bit.cellsTold(tape);
        if (cells != NONE) {
            Bit bit = bits[b];
            if (bit.lies) {
                papyrus.remove(bit);
            }
            bit.become(tape);
        }
        tape.length = 0;
        return cells;
    }

    public int cell(int b, int row, int column) {
        Bit bit = bitOf(b);
        if (bit == null || row < 0 || row >= BIT_ROWS || column < 0 || column >= BIT_COLUMNS) {
            return NONE;
        }
        return bit.signs[row * BIT_COLUMNS + column];
    }

    public int fibre(int b, boolean across, int i, int v) {
        Bit bit = bitOf(b);
        if (bit == null || bit.lies || v < 0 || v > MOST_FIBRE) {
            return NONE;
        }
        Fibres fibres = across ? bit.across : bit.down;
        if (i < 0 || i >= fibres.numbers.length) {
            return NONE;
        }
        int was = fibres.numbers[i];
        fibres.numbers[i] = v;
        return was;
    }

    public int word() {
        boolean taken = tape.isLetters(MOST_WORD_LETTERS) && list.count < MOST_WORDS;
        if (taken) {
            list.append(tape);
        }
        tape.length = 0;
        return taken ? list.count : NONE;
    }

    // ---- the sheet

    public boolean lay(int b, int row, int column) {
        Bit bit = bitOf(b);
        if (bit == null || bit.lies) {
            return false;
        }
        boolean may = papyrus.hasRoom(bit, row, column)
                && papyrus.fibreWorth(bit, row, column) != NONE
                && papyrus.allRunsCan(list)
                && papyrus.runsCanWith(bit, row, column, list);
        if (may) {
            papyrus.put(bit, row, column);
        }
        return may;
    }

    public boolean take(int b) {
        Bit bit = bitOf(b);
        if (bit == null || !bit.lies) {
            return false;
        }
        papyrus.remove(bit);
        return true;
    }

    public int place(int b, int what) {
        Bit bit = bitOf(b);
        if (bit == null || !bit.lies || what < 0 || what > 1) {
            return NONE;
        }
        return what == 0 ? bit.row : bit.column;
    }

    public int sheet(int row, int column) {
        return Sheet.isInside(row, column) ? papyrus.signAt(row, column) : NONE;
    }

    public int whose(int row, int column) {
        return papyrus.ownerAt(row, column);
    }

    public int words(int row, int column) {
        if (!isText(papyrus.signAt(row, column))) {
            return NONE;
        }
        papyrus.followRun(row, column, list);
        int found = 0;
        for (int k = 0; k < list.count; k++) {
            if (list.canBe(k)) {
                found++;
            }
        }
        return found;
    }

    public int read(int row, int column, int k) {
        if (k < 0 || !isText(papyrus.signAt(row, column))) {
            return NONE;
        }
        papyrus.followRun(row, column, list);
        int found = 0;
        for (int number = 0; number < list.count; number++) {
            if (list.canBe(number)) {
                if (found == k) {
                    return number;
                }
                found++;
            }
        }
        return NONE;
    }

    public int worth() {
        return papyrus.wholeWorth();
    }

    public int join(int a, int b) {
        Bit first = looseBit(a);
        Bit second = b == NONE ? null : looseBit(b);
        if (first == null || first == second || (second == null && b != NONE)) {
            return NONE;
        }
        boolean joined = false;
        if (second == null) {
            joined = search.joinAlone(first, papyrus, list);
        } else if (first.number < second.number) {
            joined = search.joinBoth(first, second, papyrus, list);
        } else {
            joined = search.joinBoth(second, first, papyrus, list);
        }
        return joined ? papyrus.wholeWorth() : NO_JOIN;
    }

    public int joins(int a) {
        Bit bit = looseBit(a);
        return bit == null ? NONE : search.countAlone(bit, papyrus, list);
    }

    // ---- rolls, known texts

    public int roll(int gap, int step) {
        if (gap < 1 || gap > MOST_GAP || step < 0 || step > MOST_STEP) {
            return NONE;
        }
        worms.bore(gap, step);
        return worms.count;
    }

    public int hole(int b, int distance) {
        Bit bit = bitOf(b);
        if (bit == null || distance < 0 || distance > MOST_DISTANCE) {
            return NONE;
        }
        return bit.addHole(distance);
    }

    public int stood(int b) {
        Bit bit = bitOf(b);
        if (bit == null || bit.holeCount == 0 || worms.count == 0) {
            return NONE;
        }
        return worms.countPlaces(bit);
    }

    public int standing(int b, int k) {
        Bit bit = bitOf(b);
        if (bit == null || bit.holeCount == 0 || k < 0) {
            return NONE;
        }
        return worms.placeOf(bit, k);
    }

    public int known() {
        boolean taken = tape.isLetters(TAPE_BYTES);
        if (taken) {
            text.become(tape);
        }
        tape.length = 0;
        return taken ? text.length : NONE;
    }

    public int stands(int b, int w) {
        Bit bit = bitOf(b);
        if (bit == null || text.length == 0 || !isWidth(w)) {
            return NONE;
        }
        return text.countTimes(bit, w);
    }

    public int letter(int b, int w, int k) {
        Bit bit = bitOf(b);
        if (bit == null || !isWidth(w) || k < 0) {
            return NO_LETTER;
        }
        return text.timeOf(bit, w, k);
    }

    public int width(int b, int from, int to) {
        Bit bit = bitOf(b);
        if (bit == null || !isWidth(from) || !isWidth(to)) {
            return NONE;
        }
        int best = NONE;
        int most = 0;
        for (int w = from; w <= to; w++) {
            int times = text.countTimes(bit, w);
            if (times > most) {
                most = times;
                best = w;
            }
        }
        return best;
    }

    // ---- what the calls share

    private Bit bitOf(int b) {
        if (b < 0 || b >= BITS || bits[b].cells == 0) {
            return null;
        }
        return bits[b];
    }

    /** A BIT that can be joined: it does not lie, and some other one does. */
    private Bit looseBit(int b) {
        Bit bit = bitOf(b);
        if (bit == null || bit.lies || papyrus.lying == 0) {
            return null;
        }
        return bit;
    }

    private static boolean isWidth(int w) {
        return w >= LEAST_WIDTH && w <= MOST_WIDTH;
    }

    private static boolean isLetter(int sign) {
        return sign >= 'a' && sign <= 'z';
    }

    private static boolean isText(int sign) {
        // Letters are told anew, as this is at the end of the longest chain of calls.
        return sign == '.' || (sign >= 'a' && sign <= 'z');
    }

    /** The bytes that were fed and not yet used. */
    private static final class Tape {
        final int[] bytes = new int[TAPE_BYTES];
        int length;

        void append(int number) {
            for (int shift = 24; shift >= 0 && length < TAPE_BYTES; shift -= 8) {
                bytes[length] = (number >>> shift) & 255;
                length++;
            }
        }

        boolean isLetters(int most) {
            if (length < 1 || length > most) {
                return false;
            }
            for (int i = 0; i < length; i++) {
                if (!isLetter(bytes[i])) {
                    return false;
                }
            }
            return true;
        }
    }

    /** The FIBRES of a BIT that run one way: those across, or those down. */
    private static final class Fibres {
        final int[] numbers;
        final boolean[] reached;

        Fibres(int lanes) {
            numbers = new int[lanes];
            reached = new boolean[lanes];
        }

        void clear() {
            for (int i = 0; i < numbers.length; i++) {
                numbers[i] = 0;
                reached[i] = false;
            }
        }

        /** A FIBRE counts only where the BIT has a CELL, so elsewhere it is as if it were not told. */
        int told(int i) {
            if (i < 0 || i >= numbers.length) {
                return 0;
            }
            return reached[i] ? numbers[i] : 0;
        }

        /** What these FIBRES and others, shifted onwards, are worth to each other; NONE when they QUARREL. */
        int worthBeside(Fibres other, int shift) {
            int sum = 0;
            for (int i = 0; i < numbers.length; i++) {
                int mine = told(i);
                int theirs = other.told(i - shift);
                if (mine != 0 && theirs != 0) {
                    if (mine != theirs) {
                        return NONE;
                    }
                    sum += 2;
                }
            }
            return sum;
        }
    }

    /** A bit of papyrus; there is one such only when it has CELLS. */
    private static final class Bit {
        final int number;
        final int[] signs = new int[BIT_CELLS];
        final int[] cellRows = new int[BIT_CELLS];
        final int[] cellColumns = new int[BIT_CELLS];
        int cells;
        final int[] firstColumns = new int[BIT_ROWS];
        final int[] lastColumns = new int[BIT_ROWS];
        int firstText;
        int lastTextColumn;
        final Fibres across = new Fibres(BIT_ROWS);
        final Fibres down = new Fibres(BIT_COLUMNS);
        final int[] holes = new int[MOST_HOLES];
        int holeCount;
        boolean lies;
        int row;
        int column;

        Bit(int number) {
            this.number = number;
        }

        /** How many CELLS that are not _ a tape tells; NONE when it tells no BIT. */
        static int cellsTold(Tape tape) {
            int row = 0;
            int column = 0;
            int told = 0;
            for (int i = 0; i < tape.length; i++) {
                int sign = tape.bytes[i];
                if (sign == ';') {
                    row++;
                    column = 0;
                } else {
                    column++;
                    if (sign != '_') {
                        told++;
                    }
                }
                if (row >= BIT_ROWS || column > BIT_COLUMNS || !isSign(sign)) {
                    return NONE;
                }
            }
            return told > 0 ? told : NONE;
        }

        private static boolean isSign(int sign) {
            return isText(sign) || sign == ',' || sign == '_' || sign == ';';
        }

        /** Takes over what a tape tells, which must be a BIT. */
        void become(Tape tape) {
            clear();
            int r = 0;
            int c = 0;
            for (int i = 0; i < tape.length; i++) {
                int sign = tape.bytes[i];
                if (sign == ';') {
                    r++;
                    c = 0;
                } else {
                    if (sign != '_' && r < BIT_ROWS && c < BIT_COLUMNS) {
                        addCell(r, c, sign);
                    }
                    c++;
                }
            }
        }

        private void clear() {
            for (int i = 0; i < BIT_CELLS; i++) {
                signs[i] = '_';
            }
            for (int r = 0; r < BIT_ROWS; r++) {
                firstColumns[r] = NONE;
                lastColumns[r] = NONE;
            }
            cells = 0;
            firstText = NONE;
            lastTextColumn = NONE;
            across.clear();
            down.clear();
            holeCount = 0;
        }

        private void addCell(int r, int c, int sign) {
            signs[r * BIT_COLUMNS + c] = sign;
            if (isText(sign)) {
                if (firstText == NONE) {
                    firstText = cells;
                }
                lastTextColumn = Math.max(lastTextColumn, c);
            }
            if (firstColumns[r] == NONE) {
                firstColumns[r] = c;
            }
            lastColumns[r] = c;
            across.reached[r] = true;
            down.reached[c] = true;
            cellRows[cells] = r;
            cellColumns[cells] = c;
            cells++;
        }

        boolean hasCell(int r, int c) {
            return r >= 0 && r < BIT_ROWS && c >= 0 && c < BIT_COLUMNS
                    && signs[r * BIT_COLUMNS + c] != '_';
        }

        int addHole(int distance) {
            boolean farther = holeCount == 0 || distance > holes[holeCount - 1];
            if (holeCount >= MOST_HOLES || !farther) {
                return NONE;
            }
            holes[holeCount] = distance;
            holeCount++;
            return holeCount;
        }
    }

    /**
     * THE LIST, and the one RUN that is being read against it. A letter of a word is one mark of a
     * long, ten marks a word and six words a long, so that a RUN is tried at all places of all words
     * at once.
     */
    private static final class WordList {
        static final int HALVES = 2;
        static final int WORDS_A_HALF = 6;
        static final int ANY = 26;

        int count;
        final long[][] letters = new long[HALVES][ANY + 1];
        final long[] starts = new long[HALVES];
        final long[] ends = new long[HALVES];
        final long[] expected = new long[HALVES];
        final long[] matched = new long[HALVES];

        /** Adds the letters of a tape, which must be a word. */
        void append(Tape tape) {
            int half = count / WORDS_A_HALF;
            int base = (count % WORDS_A_HALF) * MOST_WORD_LETTERS;
            if (half >= HALVES || tape.length < 1 || tape.length > MOST_WORD_LETTERS) {
                return;
            }
            for (int i = 0; i < tape.length; i++) {
                long mark = 1L << (base + i);
                letters[half][indexOf(tape.bytes[i])] |= mark;
                letters[half][ANY] |= mark;
            }
            starts[half] |= 1L << base;
            ends[half] |= 1L << (base + tape.length - 1);
            count++;
        }

        private static int indexOf(int sign) {
            return sign >= 'a' && sign <= 'z' ? sign - 'a' : ANY;
        }

        void beginRun(boolean closed) {
            for (int h = 0; h < HALVES; h++) {
                expected[h] = closed ? starts[h] : letters[h][ANY];
            }
        }

        void nextSign(int sign) {
            int index = indexOf(sign);
            for (int h = 0; h < HALVES; h++) {
                matched[h] = expected[h] & letters[h][index];
                // A word's last letter must not lead on into the next word's first.
                expected[h] = (matched[h] << 1) & ~starts[h];
            }
        }

        void endRun(boolean closed) {
            if (closed) {
                for (int h = 0; h < HALVES; h++) {
                    matched[h] &= ends[h];
                }
            }
        }

        boolean canBeSome() {
            return count == 0 || matched[0] != 0 || matched[1] != 0;
        }

        boolean canBe(int k) {
            if (k < 0 || k >= count) {
                return false;
            }
            long marks = matched[k / WORDS_A_HALF] >>> ((k % WORDS_A_HALF) * MOST_WORD_LETTERS);
            return (marks & ((1L << MOST_WORD_LETTERS) - 1)) != 0;
        }
    }

    /**
     * The FIBRES of all BITS that lie, one way. As none QUARREL, those told in one ROW or column are
     * alike, so a number and how many tell it are enough.
     */
    private static final class Lanes {
        final int[] numbers;
        final int[] tellers;

        Lanes(int lanes) {
            numbers = new int[lanes];
            tellers = new int[lanes];
        }

        private boolean has(int lane) {
            return lane >= 0 && lane < numbers.length;
        }

        /** What a BIT's FIBRES from a lane on are worth to those here; NONE when they QUARREL. */
        int worthOf(Fibres fibres, int from) {
            int sum = 0;
            for (int i = 0; i < fibres.numbers.length; i++) {
                int told = fibres.told(i);
                int lane = from + i;
                if (told != 0 && has(lane) && tellers[lane] > 0) {
                    if (numbers[lane] != told) {
                        return NONE;
                    }
                    sum += 2 * tellers[lane];
                }
            }
            return sum;
        }

        /** Lets a BIT's FIBRES come (change 1) or go (change -1). */
        void change(Fibres fibres, int from, int change) {
            for (int i = 0; i < fibres.numbers.length; i++) {
                int told = fibres.told(i);
                int lane = from + i;
                if (told != 0 && has(lane)) {
                    numbers[lane] = told;
                    tellers[lane] += change;
                }
            }
        }

        int pairsWorth() {
            int sum = 0;
            for (int lane = 0; lane < tellers.length; lane++) {
                // Half of n (n - 1) are the pairs, and each is worth 2.
                sum += tellers[lane] * (tellers[lane] - 1);
            }
            return sum;
        }
    }

    /** THE SHEET with the BITS that lie. */
    private static final class Sheet {
        final int[] signs = new int[SHEET_CELLS];
        final int[] owners = new int[SHEET_CELLS];
        final Lanes across = new Lanes(SHEET_ROWS);
        final Lanes down = new Lanes(SHEET_COLUMNS);
        int lying;

        Sheet() {
            for (int i = 0; i < SHEET_CELLS; i++) {
                signs[i] = '_';
                owners[i] = NONE;
            }
        }

        static boolean isInside(int row, int column) {
            return row >= 0 && row < SHEET_ROWS && column >= 0 && column < SHEET_COLUMNS;
        }

        int signAt(int row, int column) {
            if (row < 0 || row >= SHEET_ROWS || column < 0 || column >= SHEET_COLUMNS) {
                return '_';
            }
            return signs[row * SHEET_COLUMNS + column];
        }

        int ownerAt(int row, int column) {
            return isInside(row, column) ? owners[row * SHEET_COLUMNS + column] : NONE;
        }

        boolean hasRoom(Bit bit, int row, int column) {
            // Farther off no CELL could be within, and the sums below might wrap around.
            if (row <= -BIT_ROWS || row >= SHEET_ROWS
                    || column <= -BIT_COLUMNS || column >= SHEET_COLUMNS) {
                return false;
            }
            for (int i = 0; i < bit.cells; i++) {
                int r = row + bit.cellRows[i];
                int c = column + bit.cellColumns[i];
                if (!isInside(r, c) || owners[r * SHEET_COLUMNS + c] != NONE) {
                    return false;
                }
            }
            return true;
        }

        /** What a BIT's FIBRES at a place are worth to those that lie; NONE when it QUARRELS with one. */
        int fibreWorth(Bit bit, int row, int column) {
            int acrossWorth = across.worthOf(bit.across, row);
            int downWorth = down.worthOf(bit.down, column);
            if (acrossWorth == NONE || downWorth == NONE) {
                return NONE;
            }
            return acrossWorth + downWorth;
        }

        /** How many pairs of CELLS side by side a BIT at a place with room has with those that lie. */
        int sidesOf(Bit bit, int row, int column) {
            int sides = 0;
            for (int i = 0; i < bit.cells; i++) {
                int r = row + bit.cellRows[i];
                int c = column + bit.cellColumns[i];
                sides += taken(r - 1, c) + taken(r + 1, c) + taken(r, c - 1) + taken(r, c + 1);
            }
            return sides;
        }

        private int taken(int row, int column) {
            return ownerAt(row, column) == NONE ? 0 : 1;
        }

        boolean allRunsCan(WordList list) {
            for (int row = 0; row < SHEET_ROWS; row++) {
                if (!runsCan(row, 0, SHEET_COLUMNS - 1, list)) {
                    return false;
                }
            }
            return true;
        }

        /**
         * Whether those RUNS can be words that a BIT, at a place with room, is part of or ends. No
         * other RUN changes through it.
         */
        boolean runsCanWith(Bit bit, int row, int column, WordList list) {
            if (list.count == 0) {
                return true;
            }
            write(bit, row, column);
            boolean can = true;
            for (int r = 0; r < BIT_ROWS && can; r++) {
                if (bit.lastColumns[r] != NONE) {
                    can = runsCan(row + r, column + bit.firstColumns[r], column + bit.lastColumns[r], list);
                }
            }
            wipe(bit, row, column);
            return can;
        }

        /** Whether the RUNS of a ROW can be words that have, or end beside, a CELL from first to last. */
        private boolean runsCan(int row, int first, int last, WordList list) {
            boolean within = false;
            for (int column = startOfRun(row, first); column <= SHEET_COLUMNS; column++) {
                int sign = signAt(row, column);
                if (isText(sign)) {
                    if (!within) {
                        list.beginRun(signAt(row, column - 1) == ',');
                    }
                    within = true;
                    list.nextSign(sign);
                } else {
                    if (within) {
                        list.endRun(sign == ',');
                        if (!list.canBeSome()) {
                            return false;
                        }
                    }
                    within = false;
                    if (column > last) {
                        return true;
                    }
                }
            }
            return true;
        }

        /** The first column of the text that goes without a gap up to a column (itself left out). */
        private int startOfRun(int row, int column) {
            int start = column;
            while (start > 0 && isText(signAt(row, start - 1))) {
                start--;
            }
            return start;
        }

        /** Lets THE LIST read the RUN that has a CELL with text. */
        void followRun(int row, int column, WordList list) {
            int start = startOfRun(row, column);
            list.beginRun(signAt(row, start - 1) == ',');
            int behind = start;
            while (behind < SHEET_COLUMNS && isText(signAt(row, behind))) {
                list.nextSign(signAt(row, behind));
                behind++;
            }
            list.endRun(signAt(row, behind) == ',');
        }

        int wholeWorth() {
            int sum = across.pairsWorth() + down.pairsWorth();
            for (int row = 0; row < SHEET_ROWS; row++) {
                for (int column = 0; column < SHEET_COLUMNS; column++) {
                    int owner = ownerAt(row, column);
                    sum += meet(owner, ownerAt(row, column + 1)) + meet(owner, ownerAt(row + 1, column));
                }
            }
            return sum;
        }

        private static int meet(int owner, int other) {
            return owner != NONE && other != NONE && owner != other ? 1 : 0;
        }

        /** Writes a BIT's signs alone, for a trial; the BIT does not lie through it. */
        void write(Bit bit, int row, int column) {
            for (int i = 0; i < bit.cells; i++) {
                int r = row + bit.cellRows[i];
                int c = column + bit.cellColumns[i];
                if (isInside(r, c)) {
                    signs[r * SHEET_COLUMNS + c] = bit.signs[bit.cellRows[i] * BIT_COLUMNS + bit.cellColumns[i]];
                }
            }
        }

        void wipe(Bit bit, int row, int column) {
            for (int i = 0; i < bit.cells; i++) {
                int r = row + bit.cellRows[i];
                int c = column + bit.cellColumns[i];
                if (isInside(r, c)) {
                    signs[r * SHEET_COLUMNS + c] = '_';
                }
            }
        }

        void put(Bit bit, int row, int column) {
            write(bit, row, column);
            own(bit, row, column, bit.number);
            across.change(bit.across, row, 1);
            down.change(bit.down, column, 1);
            bit.lies = true;
            bit.row = row;
            bit.column = column;
            lying++;
        }

        void remove(Bit bit) {
            wipe(bit, bit.row, bit.column);
            own(bit, bit.row, bit.column, NONE);
            across.change(bit.across, bit.row, -1);
            down.change(bit.down, bit.column, -1);
            bit.lies = false;
            lying--;
        }

        private void own(Bit bit, int row, int column, int owner) {
            for (int i = 0; i < bit.cells; i++) {
                int r = row + bit.cellRows[i];
                int c = column + bit.cellColumns[i];
                if (isInside(r, c)) {
                    owners[r * SHEET_COLUMNS + c] = owner;
                }
            }
        }
    }

    /** The places at which one BIT may lie with those that lie, row by row. */
    private static final class Places {
        // A place is told by where the BIT's first CELL then is, so there are no more than CELLS.
        final int[] rows = new int[SHEET_CELLS];
        final int[] columns = new int[SHEET_CELLS];
        final int[] gains = new int[SHEET_CELLS];
        final boolean[] touching = new boolean[SHEET_CELLS];
        int count;

        void collect(Bit bit, boolean touchingOnly, Sheet sheet, WordList list) {
            count = 0;
            // A RUN that can be no word can't become one by more signs.
            if (!sheet.allRunsCan(list)) {
                return;
            }
            for (int row = 1 - BIT_ROWS; row < SHEET_ROWS; row++) {
                for (int column = 1 - BIT_COLUMNS; column < SHEET_COLUMNS; column++) {
                    if (!sheet.hasRoom(bit, row, column)) {
                        continue;
                    }
                    int sides = sheet.sidesOf(bit, row, column);
                    int fibres = sheet.fibreWorth(bit, row, column);
                    if (fibres == NONE || (touchingOnly && sides == 0)) {
                        continue;
                    }
                    if (sheet.runsCanWith(bit, row, column, list)) {
                        add(row, column, fibres + sides, sides > 0);
                    }
                }
            }
        }

        private void add(int row, int column, int gain, boolean touches) {
            if (count < SHEET_CELLS) {
                rows[count] = row;
                columns[count] = column;
                gains[count] = gain;
                touching[count] = touches;
                count++;
            }
        }

        /** The greatest gain's first place; NONE when there is no place. */
        int best() {
            int best = NONE;
            for (int i = 0; i < count; i++) {
                if (best == NONE || gains[i] > gains[best]) {
                    best = i;
                }
            }
            return best;
        }

        /** Writes down which places touch, and answers how many. */
        int listTouching(int[] touched) {
            int found = 0;
            for (int i = 0; i < count && found < touched.length; i++) {
                if (touching[i]) {
                    touched[found] = i;
                    found++;
                }
            }
            return found;
        }
    }

    /**
     * What two BITS are to each other by how far the second lies from the first: kept in rows, so
     * that a pair of places is weighed without looking at CELLS.
     */
    private static final class Pairing {
        static final int SIDE_ROWS = 2 * BIT_ROWS + 1;
        static final int SIDE_COLUMNS = 2 * BIT_COLUMNS + 1;

        final int[] sides = new int[SIDE_ROWS * SIDE_COLUMNS];
        final int[] acrossWorth = new int[SIDE_ROWS];
        final int[] downWorth = new int[SIDE_COLUMNS];

        void compare(Bit first, Bit second) {
            for (int i = 0; i < SIDE_ROWS; i++) {
                int rowShift = i - BIT_ROWS;
                acrossWorth[i] = first.across.worthBeside(second.across, rowShift);
                for (int k = 0; k < SIDE_COLUMNS; k++) {
                    sides[i * SIDE_COLUMNS + k] = countSides(first, second, rowShift, k - BIT_COLUMNS);
                }
            }
            for (int k = 0; k < SIDE_COLUMNS; k++) {
                downWorth[k] = first.down.worthBeside(second.down, k - BIT_COLUMNS);
            }
        }

        /** The pairs of CELLS side by side; NONE when two CELLS would be in one place. */
        private static int countSides(Bit first, Bit second, int rowShift, int columnShift) {
            int sum = 0;
            for (int i = 0; i < second.cells; i++) {
                int r = second.cellRows[i] + rowShift;
                int c = second.cellColumns[i] + columnShift;
                if (first.hasCell(r, c)) {
                    return NONE;
                }
                sum += one(first.hasCell(r - 1, c)) + one(first.hasCell(r + 1, c))
                        + one(first.hasCell(r, c - 1)) + one(first.hasCell(r, c + 1));
            }
            return sum;
        }

        private static int one(boolean holds) {
            return holds ? 1 : 0;
        }

        int sidesAt(int rowShift, int columnShift) {
            return rowsMeet(rowShift) && columnsMeet(columnShift)
                    ? sides[(rowShift + BIT_ROWS) * SIDE_COLUMNS + columnShift + BIT_COLUMNS] : 0;
        }

        int acrossAt(int rowShift) {
            return rowsMeet(rowShift) ? acrossWorth[rowShift + BIT_ROWS] : 0;
        }

        int downAt(int columnShift) {
            return columnsMeet(columnShift) ? downWorth[columnShift + BIT_COLUMNS] : 0;
        }

        boolean rowsMeet(int rowShift) {
            return rowShift >= -BIT_ROWS && rowShift <= BIT_ROWS;
        }

        private boolean columnsMeet(int columnShift) {
            return columnShift >= -BIT_COLUMNS && columnShift <= BIT_COLUMNS;
        }
    }

    /** Tries all places for the best JOIN. */
    private static final class Search {
        final Places firstPlaces = new Places();
        final Places secondPlaces = new Places();
        final int[] touched = new int[SHEET_CELLS];
        final Pairing pairing = new Pairing();
        int bestGain;
        int bestFirst;
        int bestSecond;

        int countAlone(Bit bit, Sheet sheet, WordList list) {
            firstPlaces.collect(bit, true, sheet, list);
            return firstPlaces.count;
        }

        boolean joinAlone(Bit bit, Sheet sheet, WordList list) {
            firstPlaces.collect(bit, true, sheet, list);
            int best = firstPlaces.best();
            if (best == NONE) {
                return false;
            }
            sheet.put(bit, firstPlaces.rows[best], firstPlaces.columns[best]);
            return true;
        }

        /** Joins two BITS; the first one has the lesser number, so its place settles ties. */
        boolean joinBoth(Bit first, Bit second, Sheet sheet, WordList list) {
            firstPlaces.collect(first, false, sheet, list);
            secondPlaces.collect(second, false, sheet, list);
            pairing.compare(first, second);
            int touchedCount = secondPlaces.listTouching(touched);
            bestGain = NONE;
            for (int i = 0; i < firstPlaces.count; i++) {
                if (firstPlaces.touching[i]) {
                    for (int k = 0; k < secondPlaces.count; k++) {
                        weigh(first, i, second, k, sheet, list);
                    }
                } else {
                    for (int t = 0; t < touchedCount; t++) {
                        weigh(first, i, second, touched[t], sheet, list);
                    }
                }
            }
            if (bestGain == NONE) {
                return false;
            }
            sheet.put(first, firstPlaces.rows[bestFirst], firstPlaces.columns[bestFirst]);
            sheet.put(second, secondPlaces.rows[bestSecond], secondPlaces.columns[bestSecond]);
            return true;
        }

        /** Keeps two places, one of which touches a BIT that lies, if they make a better JOIN. */
        private void weigh(Bit first, int i, Bit second, int k, Sheet sheet, WordList list) {
            int gain = gainOf(i, k);
            if (gain <= bestGain) {
                return;
            }
            boolean can = true;
            // Each BIT alone was found to make no wrong RUN, so only ROWS that both have can hold one.
            if (pairing.rowsMeet(secondPlaces.rows[k] - firstPlaces.rows[i])) {
                sheet.write(first, firstPlaces.rows[i], firstPlaces.columns[i]);
                can = sheet.runsCanWith(second, secondPlaces.rows[k], secondPlaces.columns[k], list);
                sheet.wipe(first, firstPlaces.rows[i], firstPlaces.columns[i]);
            }
            if (can) {
                bestGain = gain;
                bestFirst = i;
                bestSecond = k;
            }
        }

        /** What two places add to THE SHEET's WORTH; NONE when the BITS may not lie so, whatever the words. */
        private int gainOf(int i, int k) {
            int rowShift = secondPlaces.rows[k] - firstPlaces.rows[i];
            int columnShift = secondPlaces.columns[k] - firstPlaces.columns[i];
            int sides = pairing.sidesAt(rowShift, columnShift);
            boolean touch = sides > 0 || (firstPlaces.touching[i] && secondPlaces.touching[k]);
            if (!touch || sides == NONE) {
                return NONE;
            }
            int across = pairing.acrossAt(rowShift);
            int down = pairing.downAt(columnShift);
            if (across == NONE || down == NONE) {
                return NONE;
            }
            return firstPlaces.gains[i] + secondPlaces.gains[k] + sides + across + down;
        }
    }

    /** THE ROLL's HOLES; there is no ROLL as long as there is none. */
    private static final class Roll {
        final int[] places = new int[MOST_ROLL_HOLES];
        int count;

        void bore(int gap, int step) {
            places[0] = 0;
            count = 1;
            for (int next = gap; next >= 1 && count < MOST_ROLL_HOLES; next -= step) {
                places[count] = places[count - 1] + next;
                count++;
            }
        }

        /** Whether a BIT STOOD where its first hole is a HOLE of the ROLL. */
        private boolean stoodBy(Bit bit, int hole) {
            int place = places[hole] - bit.holes[0];
            if (place < 0 || (hole > 0 && places[hole - 1] >= place)) {
                return false;
            }
            for (int i = 0; i < bit.holeCount; i++) {
                int other = hole + i;
                if (other >= count || places[other] != place + bit.holes[i]) {
                    return false;
                }
            }
            return true;
        }

        int countPlaces(Bit bit) {
            int found = 0;
            for (int hole = 0; hole < count; hole++) {
                if (stoodBy(bit, hole)) {
                    found++;
                }
            }
            return found;
        }

        int placeOf(Bit bit, int k) {
            int found = 0;
            for (int hole = 0; hole < count; hole++) {
                if (stoodBy(bit, hole)) {
                    if (found == k) {
                        return places[hole] - bit.holes[0];
                    }
                    found++;
                }
            }
            return NONE;
        }
    }

    /** The KNOWN text; there is none as long as it has no letters. */
    private static final class KnownText {
        final int[] letters = new int[TAPE_BYTES];
        int length;

        void become(Tape tape) {
            System.arraycopy(tape.bytes, 0, letters, 0, tape.length);
            length = tape.length;
        }

        int countTimes(Bit bit, int w) {
            int found = 0;
            for (int at = 0; at < length; at++) {
                if (standsAt(bit, w, at - firstShift(bit, w))) {
                    found++;
                }
            }
            return found;
        }

        int timeOf(Bit bit, int w, int k) {
            int found = 0;
            for (int at = 0; at < length; at++) {
                int i = at - firstShift(bit, w);
                if (standsAt(bit, w, i)) {
                    if (found == k) {
                        return i;
                    }
                    found++;
                }
            }
            return NO_LETTER;
        }

        /** How far behind i the first CELL with text is: it is by some letter, so these are all to try. */
        private int firstShift(Bit bit, int w) {
            int first = bit.firstText;
            return first == NONE ? 0 : bit.cellRows[first] * w + bit.cellColumns[first];
        }

        private boolean standsAt(Bit bit, int w, int i) {
            // A CELL is in its own line if the ROW does not run over the end of the line.
            if (bit.firstText == NONE || Math.floorMod(i, w) + bit.lastTextColumn >= w) {
                return false;
            }
            for (int n = bit.firstText; n < bit.cells; n++) {
                int sign = bit.signs[bit.cellRows[n] * BIT_COLUMNS + bit.cellColumns[n]];
                int at = i + bit.cellRows[n] * w + bit.cellColumns[n];
                if (isText(sign) && !agrees(at, sign)) {
                    return false;
                }
            }
            return true;
        }

        private boolean agrees(int at, int sign) {
            return at >= 0 && at < length && (sign == '.' || letters[at] == sign);
        }
    }
}
