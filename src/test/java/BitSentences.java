/** The sentences on an object, its tape, BITS, FIBRES and words. */
final class BitSentences {
    private static final int LEAST = Integer.MIN_VALUE;
    private static final int GREATEST = Integer.MAX_VALUE;
    /** Numbers that are no BIT's. */
    private static final int[] NO_BITS = {-1, 10, -2, 11, 256, LEAST, GREATEST};

    private final Sentences s;

    BitSentences(Sentences s) {
        this.s = s;
    }

    void askAll() {
        calls();
        constants();
        newObject();
        feed();
        end();
        numbersAndSizes();
        signs();
        rows();
        oneCell();
        bit();
        bitGoesInAnyCase();
        bitAnew();
        bitRefused();
        cell();
        fibres();
        fibre();
        fibreRefused();
        word();
        wordRefused();
        wordStays();
    }

    private void calls() {
        s.says("What it is", "An object is used for at most 512 calls after it has been made;"
                + " what later calls answer is free.");
        TornReeds x = new TornReeds();
        // Four calls make the BIT.
        Due.bit(x, 0, "a");
        for (int call = 5; call <= 512; call++) {
            boolean lays = call % 2 == 1;
            s.is("call " + call, lays ? x.lay(0, 15, 31) : x.take(0), true);
        }
    }

    private void constants() {
        s.says("The constants", "The constants: `NONE = -1`: There is none; it is refused.");
        s.is("NONE", constant("NONE"), -1);
    }

    /** A constant as the class has it now, not as it was when the tests were compiled. */
    private static int constant(String name) {
        try {
            return TornReeds.class.getField(name).getInt(null);
        } catch (ReflectiveOperationException e) {
            return Integer.MIN_VALUE;
        }
    }

    private void newObject() {
        // What an earlier object has is nothing to a new one.
        TornReeds other = new TornReeds();
        for (int b = 0; b < 10; b++) {
            Due.bit(other, b, "q");
            other.hole(b, 0);
            other.lay(b, b, b);
        }
        other.roll(1, 0);
        Due.known(other, "q");
        Due.word(other, "q");
        Due.tape(other, "q");
        s.says("Promise 1", "No BITS,");
        TornReeds x = new TornReeds();
        for (int b = 0; b < 10; b++) {
            s.is("no CELL", x.cell(b, 0, 0), -1);
            s.is("no FIBRE", x.fibre(b, true, 0, 1), -1);
            s.is("none to lay", x.lay(b, 0, 0), false);
            s.is("none to take", x.take(b), false);
            s.is("none that lies", x.place(b, 0), -1);
            s.is("none to join", x.join(b, -1), -1);
            s.is("no JOINS", x.joins(b), -1);
            s.is("no hole", x.hole(b, 0), -1);
            s.is("none that STOOD", x.stood(b), -1);
            s.is("none that STANDS", x.stands(b, 2), -1);
        }
        s.is("no tape", x.end(1), false);
        s.is("an empty tape", x.end(0), true);
        s.says("Promise 1", "no LIST,");
        Due.bit(x, 0, "zx,kv");
        s.is("any RUN can", x.lay(0, 0, 0), true);
        s.is("no words", x.words(0, 0), 0);
        s.is("the first word", Due.word(x, "a"), 1);
        newSheet();
        newRollAndText();
    }

    private void newSheet() {
        s.says("Promise 1", "an empty SHEET,");
        TornReeds x = new TornReeds();
        TornReeds y = new TornReeds();
        for (int row = 0; row < 16; row++) {
            for (int column = 0; column < 32; column++) {
                s.is("nothing", x.sheet(row, column), '_');
                s.is("nobody's", y.whose(row, column), -1);
            }
        }
        s.is("worth nothing", new TornReeds().worth(), 0);
    }

    private void newRollAndText() {
        s.says("Promise 1", "no ROLL,");
        TornReeds x = new TornReeds();
        Due.bit(x, 0, "q");
        x.hole(0, 0);
        s.is("not told", x.stood(0), -1);
        s.is("no place", x.standing(0, 0), -1);
        s.says("Promise 1", "no KNOWN text.");
        s.is("not told", x.stands(0, 2), -1);
        s.is("no letter", x.letter(0, 2, 0), -1000);
        s.is("no width", x.width(0, 2, 60), -1);
    }

    private void feed() {
        s.says("Promise 2", "Twenty bytes come behind those on the tape, of each number the highest first:"
                + " how many there are;");
        TornReeds x = new TornReeds();
        s.is("twenty", x.feed(0x61626364, 0x65666768, 0x696a6b6c, 0x6d6e6f70, 0x71727374), 20);
        s.is("twenty more", x.feed(0x75767778, 0x797a6161, 0x62626363, 0x64646565, 0x66666767), 40);
        x.known();
        String told = "abcdefghijklmnopqrstuvwxyzaabbccddeeffgg";
        for (int i = 0; i <= 36; i++) {
            Due.bit(x, 1, told.substring(i, i + 4));
            s.is("in this order", x.letter(1, 60, 0), i);
        }
        TornReeds y = new TornReeds();
        s.is("numbers below 0", y.feed(0xe1626364, 0x61e26364, 0x6162e364, 0x616263e4, -1), 20);
        s.is("a byte above 127 is no letter", y.known(), -1);
        for (int i = 1; i <= 10; i++) {
            s.is("up to 200", y.feed(0x61616161, 0x61616161, 0x61616161, 0x61616161, 0x61616161), 20 * i);
        }
        s.is("all of them", y.known(), 200);
        feedTooMuch();
    }

    private void feedTooMuch() {
        s.says("Promise 2", "NONE, doing nothing, if there would be more than 200.");
        for (int had : new int[] {200, 199, 181}) {
            TornReeds x = new TornReeds();
            Due.tape(x, "a".repeat(had));
            s.is("behind " + had, x.feed(0x7a7a7a7a, 0x7a7a7a7a, 0x7a7a7a7a, 0x7a7a7a7a, 0x7a7a7a7a), -1);
            s.is("as many as there were", x.end(had + 1), false);
            s.is("all of which are there", x.known(), had);
            Due.bit(x, 0, "z");
            s.is("and no others", x.stands(0, 60), 0);
        }
        TornReeds x = new TornReeds();
        Due.tape(x, "a".repeat(180));
        s.is("behind 180", x.feed(0, 0, 0, 0, 0), 200);
    }

    private void end() {
        s.says("Promise 3", "The tape has its first n bytes alone: true;");
        TornReeds x = new TornReeds();
        s.is("none of an empty tape", x.end(0), true);
        x.feed(0x61626364, 0x65666768, 0x7a7a7a7a, 0x7a7a7a7a, 0x7a7a7a7a);
        s.is("all", x.end(20), true);
        s.is("eight", x.end(8), true);
        s.is("eight alone", x.end(9), false);
        s.is("more come behind them", x.feed(0x696a6b6c, 0x6d6e6f70, 0x71727374, 0x75767778, 0x79797979), 28);
        s.is("as a text", x.known(), 28);
        Due.bit(x, 0, "ghij");
        s.is("where they meet", x.letter(0, 60, 0), 6);
        x.feed(0x61616161, 0x61616161, 0x61616161, 0x61616161, 0x61616161);
        s.is("none", x.end(0), true);
        s.is("none is left", x.end(1), false);
        s.says("Promise 3", "false, doing nothing, if it has not so many, or n is below 0.");
        s.is("one of an empty tape", x.end(1), false);
        x.feed(0x61616161, 0x61616161, 0x61616161, 0x61616161, 0x61616161);
        for (int n : new int[] {21, 200, GREATEST, -1, -20, LEAST}) {
            s.is("n is " + n, x.end(n), false);
        }
        s.is("doing nothing", x.feed(0x61616161, 0x61616161, 0x61616161, 0x61616161, 0x61616161), 40);
        s.is("nothing at all", x.known(), 40);
    }

    private void numbersAndSizes() {
        s.says("Terms I", "BITS 0 .. 9 have up to 5 ROWS of up to 10 CELLS:");
        TornReeds x = new TornReeds();
        for (int b = 0; b < 10; b++) {
            s.is("BIT " + b, Due.bit(x, b, "" + (char) ('a' + b)), 1);
        }
        for (int b = 0; b < 10; b++) {
            s.is("each its own", x.cell(b, 0, 0), 'a' + b);
        }
        for (int b : NO_BITS) {
            s.is("no BIT " + b, Due.bit(x, b, "a"), -1);
        }
        s.is("five rows of ten", Due.bit(x, 0, "abcdefghij;klmnopqrst;uvwxyzabcd;..........;,,,,,,,,,,"), 50);
        s.is("the last CELL of the first row", x.cell(0, 0, 9), 'j');
        s.is("the first one of the next", x.cell(0, 1, 0), 'k');
        s.is("the last CELL", x.cell(0, 4, 9), ',');
        s.is("four rows", Due.bit(x, 0, "a;b;c;d"), 4);
        s.is("five rows", Due.bit(x, 0, "a;b;c;d;e"), 5);
        s.is("six rows", Due.bit(x, 0, "a;b;c;d;e;f"), -1);
        s.is("seven rows", Due.bit(x, 0, "a;b;c;d;e;f;g"), -1);
        s.is("nine CELLS", Due.bit(x, 0, "abcdefghi"), 9);
        s.is("ten CELLS", Due.bit(x, 0, "abcdefghij"), 10);
        s.is("eleven CELLS", Due.bit(x, 0, "abcdefghijk"), -1);
        s.is("eleven in the last row", Due.bit(x, 0, "a;;;;abcdefghijk"), -1);
        s.is("eleven, the last one nothing", Due.bit(x, 0, "abcdefghij_"), -1);
        s.is("sixty in six rows", Due.bit(x, 0, "abcdefghij;".repeat(5) + "abcdefghij"), -1);
        s.is("two hundred signs", Due.bit(x, 0, "a".repeat(200)), -1);
    }

    private void signs() {
        s.says("Terms I", "a letter a .. z; . a letter that can't be read; , a blank that was written so;"
                + " _ nothing (the bit does not reach there).");
        for (int sign = 0; sign < 256; sign++) {
            TornReeds x = new TornReeds();
            boolean cell = sign >= 'a' && sign <= 'z' || sign == '.' || sign == ',';
            boolean none = sign == '_' || sign == ';';
            s.is("sign " + sign, Due.bit(x, 0, "q" + (char) sign + "q"), cell ? 3 : none ? 2 : -1);
            if (cell || sign == '_') {
                s.is("it is in the CELL", x.cell(0, 0, 1), sign);
                s.is("the next one behind it", x.cell(0, 0, 2), 'q');
                x.lay(0, 0, 0);
                s.is("whose it is", x.whose(0, 1), cell ? 0 : -1);
                s.is("a letter, if it is one", x.words(0, 1), cell && sign != ',' ? 0 : -1);
            }
        }
    }

    private void rows() {
        s.says("Terms I", "Their text: these signs, a new row behind each ; (so one behind the last one, too,"
                + " with nothing in it; a row may be shorter: what lacks is _ ).");
        TornReeds x = new TornReeds();
        s.is("one ; behind four rows", Due.bit(x, 0, "a;b;c;d;"), 4);
        s.is("nothing in the fifth", x.cell(0, 4, 0), '_');
        s.is("one ; behind five rows", Due.bit(x, 0, "a;b;c;d;e;"), -1);
        s.is("rows with nothing in them", Due.bit(x, 0, ";;b;;a"), 2);
        s.is("nothing in the first", x.cell(0, 0, 0), '_');
        s.is("the third", x.cell(0, 2, 0), 'b');
        s.is("nothing in the fourth", x.cell(0, 3, 0), '_');
        s.is("the fifth", x.cell(0, 4, 0), 'a');
        s.is("five ; alone", Due.bit(x, 0, "a;;;;;"), -1);
        s.is("shorter rows", Due.bit(x, 0, "ab;cdefghijkl;m"), 13);
        for (int row = 0; row < 5; row++) {
            String has = row == 0 ? "ab" : row == 1 ? "cdefghijkl" : row == 2 ? "m" : "";
            for (int column = 0; column < 10; column++) {
                int sign = column < has.length() ? has.charAt(column) : '_';
                s.is("what lacks in row " + row, x.cell(0, row, column), sign);
            }
        }
    }

    private void oneCell() {
        s.says("Terms I", "One CELL at least is not _ .");
        TornReeds x = new TornReeds();
        s.is("no sign", Due.bit(x, 0, ""), -1);
        for (String none : new String[] {"_", "__________", ";", ";;;;", "_;_;_;_;_", "__________;;;;__________"}) {
            s.is("nothing but _", Due.bit(x, 0, none), -1);
            s.is("so there is none", x.cell(0, 0, 0), -1);
        }
        s.is("a blank", Due.bit(x, 0, "_,"), 1);
        s.is("an unread letter", Due.bit(x, 0, ";."), 1);
        s.is("the last of all", Due.bit(x, 0, "_;_;_;_;_________z"), 1);
    }

    private void bit() {
        s.says("Promise 4", "BIT b is what the tape says");
        TornReeds x = new TornReeds();
        Due.bit(x, 9, "ab;c");
        Due.bit(x, 9, "_.,");
        s.is("nothing of what was", x.cell(9, 0, 0), '_');
        s.is("an unread letter", x.cell(9, 0, 1), '.');
        s.is("a blank", x.cell(9, 0, 2), ',');
        s.is("nothing below", x.cell(9, 1, 0), '_');
        s.is("of another one nothing", x.cell(8, 0, 0), -1);
        x.lay(9, 0, 0);
        s.is("laid it has nothing of what was", x.sheet(0, 0), '_');
        s.is("laid it has nothing of what was below", x.sheet(1, 0), '_');
        Due.bit(x, 1, "____________".substring(0, 9) + "a");
        Due.bit(x, 1, "a");
        Due.known(x, "aa");
        s.is("in a text it is not as wide as what was", x.stands(1, 2), 2);
        Due.word(x, "a");
        Due.bit(x, 2, "____a");
        Due.bit(x, 2, "q___a");
        s.is("its first letter is looked at, where there was none", x.lay(2, 5, 5), false);
        Due.bit(x, 2, "a");
        Due.bit(x, 2, "a___q");
        s.is("its last letter is looked at, where there was none", x.lay(2, 5, 5), false);
        s.says("Promise 4", "how many CELLS it has that are not _ ;");
        s.is("one", Due.bit(x, 0, "_a_"), 1);
        s.is("letters, unread ones, blanks", Due.bit(x, 0, "a.,_;_,"), 4);
        s.is("not those of the one before", Due.bit(x, 0, "b"), 1);
        s.is("as many as can be", Due.bit(x, 0, "..........;..........;..........;..........;.........."), 50);
    }

    private void bitGoesInAnyCase() {
        s.says("Promise 4", "(it goes, in any case),");
        TornReeds x = new TornReeds();
        Due.bit(x, 0, "a");
        s.is("with a BIT", x.end(1), false);
        for (String wrong : new String[] {"A", "_", "abcdefghijk", "a;;;;;", "a".repeat(200)}) {
            Due.bit(x, 0, wrong);
            s.is("with what is none", x.end(1), false);
        }
        for (int b : NO_BITS) {
            Due.bit(x, b, "a");
            s.is("with the number " + b, x.end(1), false);
        }
        x.feed(0x61616161, 0x61616161, 0x61616161, 0x61616161, 0x61616161);
        x.bit(10);
        s.is("so that the next bytes are the first", x.feed(0x61616161, 0x61616161, 0, 0, 0), 20);
    }

    private void bitAnew() {
        s.says("Promise 4", "without FIBRES and holes;");
        TornReeds x = new TornReeds();
        Due.bit(x, 0, "a");
        for (int i = 0; i < 10; i++) {
            x.fibre(0, true, i, 9);
            x.fibre(0, false, i, 9);
        }
        for (int n = 0; n < 6; n++) {
            x.hole(0, 2000 - 6 + n);
        }
        Due.bit(x, 0, "a");
        for (int i = 0; i < 5; i++) {
            s.is("no FIBRE across", x.fibre(0, true, i, 0), 0);
        }
        for (int i = 0; i < 10; i++) {
            s.is("no FIBRE down", x.fibre(0, false, i, 0), 0);
        }
        x.roll(1, 1);
        s.is("none to stand by", x.stood(0), -1);
        s.is("no hole", x.hole(0, 0), 1);
        bitThatLay();
    }

    private void bitThatLay() {
        s.says("Promise 4", "if one lay, it lies no more:");
        TornReeds x = new TornReeds();
        Due.bit(x, 0, "ab;c");
        Due.bit(x, 1, "d");
        x.fibre(0, true, 0, 5);
        x.fibre(0, false, 0, 6);
        x.lay(0, 7, 7);
        x.lay(1, 6, 7);
        Due.bit(x, 0, "ab;c");
        s.is("not even the same once more", x.place(0, 0), -1);
        s.is("no sign of it", x.sheet(7, 7), '_');
        s.is("nor below", x.sheet(8, 7), '_');
        s.is("it has no CELL there", x.whose(7, 8), -1);
        s.is("it is worth nothing", x.worth(), 0);
        s.is("it is not taken", x.take(0), false);
        s.is("the other one lies", x.place(1, 0), 6);
        Due.bit(x, 2, "e");
        x.fibre(2, true, 0, 7);
        x.fibre(2, false, 0, 8);
        s.is("its FIBRES lie no more", x.lay(2, 7, 7), true);
        s.is("it can be laid anew", x.lay(0, 9, 9), true);
        x.take(1);
        x.take(2);
        Due.bit(x, 0, "a");
        s.is("then nothing lies", x.joins(1), -1);
    }

    private void bitRefused() {
        s.says("Promise 4", "NONE when that can't be.");
        TornReeds x = new TornReeds();
        s.is("an empty tape", x.bit(0), -1);
        s.is("so there is none", x.cell(0, 0, 0), -1);
        Due.bit(x, 0, "ab");
        x.fibre(0, true, 0, 5);
        x.hole(0, 7);
        x.lay(0, 3, 3);
        for (String wrong : new String[] {"", "A", "_", "a b", "abcdefghijk", "a;;;;;b", "z;z;z;z;z;", "zz\u0000"}) {
            s.is("no BIT: " + wrong, Due.bit(x, 0, wrong), -1);
        }
        s.is("what was stays", x.cell(0, 0, 1), 'b');
        s.is("where it lay", x.place(0, 0), 3);
        s.is("with its holes", x.hole(0, 7), -1);
        x.take(0);
        s.is("with its FIBRES", x.fibre(0, true, 0, 5), 5);
        for (int b : NO_BITS) {
            s.is("no number: " + b, Due.bit(x, b, "a"), -1);
        }
    }

    private void cell() {
        s.says("Promise 5", "What a BIT has in a CELL (the sign; _ where it does not reach within 5 by 10);");
        TornReeds x = new TornReeds();
        Due.bit(x, 0, "a.;,_z");
        int[][] signs = {{'a', '.', '_'}, {',', '_', 'z'}};
        for (int row = 0; row < 5; row++) {
            for (int column = 0; column < 10; column++) {
                int sign = row < 2 && column < 3 ? signs[row][column] : '_';
                s.is("CELL " + row + " " + column, x.cell(0, row, column), sign);
            }
        }
        x.lay(0, 3, 3);
        s.is("while it lies", x.cell(0, 1, 2), 'z');
        s.says("Promise 5", "NONE when there is none such.");
        for (int i : new int[] {-1, 5, 6, -5, LEAST, GREATEST}) {
            s.is("row " + i, x.cell(0, i, 0), -1);
        }
        for (int i : new int[] {-1, 10, 11, -10, LEAST, GREATEST}) {
            s.is("column " + i, x.cell(0, 0, i), -1);
        }
        s.is("row 5, by a column below 0", x.cell(0, 5, -10), -1);
        s.is("row below 0, by a column of 10", x.cell(0, -1, 10), -1);
        for (int b : NO_BITS) {
            s.is("number " + b, x.cell(b, 0, 0), -1);
        }
        s.is("a BIT that was never told", x.cell(1, 0, 0), -1);
    }

    private void fibres() {
        s.says("Terms I", "Each of its ROWS may have a FIBRE that runs across, each of its columns one that runs down:"
                + " a number 1 .. 99, or 0, if it can't be told.");
        TornReeds x = new TornReeds();
        Due.bit(x, 0, "a");
        for (int i = 0; i < 10; i++) {
            s.is("across " + i, x.fibre(0, true, i, 1 + i), i < 5 ? 0 : -1);
            s.is("down " + i, x.fibre(0, false, i, 11 + i), 0);
        }
        for (int i = 0; i < 10; i++) {
            s.is("each its own, across " + i, x.fibre(0, true, i, 0), i < 5 ? 1 + i : -1);
            s.is("each its own, down " + i, x.fibre(0, false, i, 0), 11 + i);
        }
        s.is("the least", x.fibre(0, true, 0, 1), 0);
        s.is("the greatest", x.fibre(0, true, 0, 99), 1);
        s.is("not told", x.fibre(0, true, 0, 0), 99);
        for (int v : new int[] {-1, 100, -99, 256, LEAST, GREATEST}) {
            s.is("no FIBRE: " + v, x.fibre(0, true, 0, v), -1);
            s.is("nor down: " + v, x.fibre(0, false, 9, v), -1);
        }
        Due.bit(x, 1, "b");
        x.fibre(1, true, 0, 7);
        x.lay(0, 5, 5);
        s.is("one that can't be told is unlike none", x.lay(1, 5, 9), true);
        s.is("nor alike", x.worth(), 0);
    }

    private void fibre() {
        s.says("Promise 6", "FIBRE of a ROW (across), or of a column: what it was;");
        TornReeds x = new TornReeds();
        Due.bit(x, 0, "ab;cd");
        s.is("not told", x.fibre(0, true, 1, 31), 0);
        s.is("a column's is another one", x.fibre(0, false, 1, 32), 0);
        s.is("another ROW's", x.fibre(0, true, 0, 33), 0);
        s.is("what the ROW's was", x.fibre(0, true, 1, 34), 31);
        s.is("what the column's was", x.fibre(0, false, 1, 35), 32);
        s.is("what it was then", x.fibre(0, true, 1, 34), 34);
        Due.bit(x, 1, "e");
        s.is("another BIT's", x.fibre(1, true, 1, 36), 0);
        x.lay(0, 0, 0);
        x.take(0);
        s.is("it is kept by a BIT that lay", x.fibre(0, false, 1, 0), 35);
    }

    private void fibreRefused() {
        s.says("Promise 6", "NONE when that can't be, or the BIT lies.");
        TornReeds x = new TornReeds();
        s.is("no BIT yet", x.fibre(0, true, 0, 1), -1);
        Due.bit(x, 0, "a");
        x.fibre(0, true, 4, 41);
        x.fibre(0, false, 9, 42);
        for (int b : NO_BITS) {
            s.is("number " + b, x.fibre(b, true, 0, 1), -1);
        }
        for (int i : new int[] {-1, 5, 10, LEAST, GREATEST}) {
            s.is("ROW " + i, x.fibre(0, true, i, 1), -1);
            s.is("column " + (i == 5 ? 11 : i), x.fibre(0, false, i == 5 ? 11 : i, 1), -1);
        }
        for (int v : new int[] {-1, 100, LEAST, GREATEST}) {
            s.is("FIBRE " + v, x.fibre(0, true, 4, v), -1);
            s.is("FIBRE down " + v, x.fibre(0, false, 9, v), -1);
        }
        x.lay(0, 0, 0);
        s.is("it lies", x.fibre(0, true, 4, 1), -1);
        s.is("it lies, down", x.fibre(0, false, 9, 1), -1);
        s.is("it lies, the same again", x.fibre(0, true, 4, 41), -1);
        s.is("it lies, not told any more", x.fibre(0, true, 4, 0), -1);
        x.take(0);
        s.is("refused, it is as it was", x.fibre(0, true, 4, 43), 41);
        s.is("refused, it is as it was, down", x.fibre(0, false, 9, 43), 42);
    }

    private void word() {
        s.says("Promise 7", "The tape's letters (1 to 10; they go, in any case) are a word more of THE LIST: how many;");
        TornReeds x = new TornReeds();
        s.is("one letter", Due.word(x, "q"), 1);
        s.is("they go", x.end(1), false);
        s.is("ten letters", Due.word(x, "abcdefghij"), 2);
        s.is("the same once more", Due.word(x, "q"), 3);
        Due.bit(x, 0, ",q,");
        Due.bit(x, 1, "abcdefghij");
        x.lay(0, 0, 0);
        s.is("two words of one letter", x.words(0, 1), 2);
        s.is("the third in THE LIST", x.read(0, 1, 1), 2);
        s.is("ten letters can be that one", x.lay(1, 1, 0), true);
        s.is("it is the second in THE LIST", x.read(1, 9, 0), 1);
        s.is("no letter", Due.word(x, ""), -1);
        s.is("eleven letters", Due.word(x, "abcdefghijk"), -1);
        s.is("they go, too", x.end(1), false);
        s.is("twenty letters", Due.word(x, "abcdefghijabcdefghij"), -1);
        Due.word(x, "a.b");
        s.is("so does what is none", x.end(1), false);
        for (int n = 4; n <= 12; n++) {
            s.is("up to 12", Due.word(x, "z"), n);
        }
        Due.word(x, "z");
        s.is("so does what is too much", x.end(1), false);
    }

    private void wordRefused() {
        s.says("Promise 7", "NONE when that can't be, or there are 12.");
        TornReeds empty = new TornReeds();
        s.is("an empty tape", empty.word(), -1);
        for (int sign = 0; sign < 256; sign++) {
            TornReeds x = new TornReeds();
            boolean letter = sign >= 'a' && sign <= 'z';
            s.is("a word with sign " + sign, Due.word(x, "a" + (char) sign), letter ? 1 : -1);
            s.is("a word of sign " + sign, Due.word(x, "" + (char) sign), letter ? 2 : -1);
        }
        TornReeds x = new TornReeds();
        for (int n = 1; n <= 12; n++) {
            Due.word(x, n < 12 ? "ab" : "cd");
        }
        s.is("a thirteenth", Due.word(x, "xy"), -1);
        s.is("a fourteenth", Due.word(x, "ab"), -1);
        Due.bit(x, 0, "xy");
        s.is("it is not in THE LIST", x.lay(0, 0, 0), false);
        Due.bit(x, 0, "cd");
        s.is("the twelfth is", x.lay(0, 0, 0), true);
        s.is("under its number", x.read(0, 0, 0), 11);
        Due.bit(x, 1, "ab");
        x.lay(1, 1, 0);
        s.is("eleven are as they were", x.words(1, 0), 11);
    }

    private void wordStays() {
        s.says("Promise 7", "(BITS that lie stay, whatever their RUNS.)");
        TornReeds x = new TornReeds();
        Due.bit(x, 0, "q,q");
        Due.bit(x, 1, "a");
        x.lay(0, 4, 5);
        x.lay(1, 9, 9);
        s.is("a word that none of them can be", Due.word(x, "xyz"), 1);
        s.lies("it lies", x, 0, 4, 5);
        s.lies("so does the other", x, 1, 9, 9);
        s.is("its sign stays", x.sheet(4, 7), 'q');
        s.is("it can be no word", x.words(4, 7), 0);
        s.is("it can be taken", x.take(0), true);
        s.is("but not laid again", x.lay(0, 4, 5), false);
    }
}
