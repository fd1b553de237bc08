/** The sentences on THE SHEET: where BITS may lie, what their RUNS can be, and what they are worth. */
final class SheetSentences {
    private static final int LEAST = Integer.MIN_VALUE;
    private static final int GREATEST = Integer.MAX_VALUE;
    private static final int[] NO_BITS = {-1, 10, -2, 11, 256, LEAST, GREATEST};
    /** Rows, or columns, that THE SHEET has not, whichever way a BIT reaches. */
    private static final int[] FAR = {-11, 32, 42, -1000, 1000, LEAST, LEAST + 4, LEAST + 9, GREATEST, GREATEST - 4};
    private static final String LARGE = "..........;..........;..........;..........;..........";

    private final Sentences s;

    SheetSentences(Sentences s) {
        this.s = s;
    }

    void askAll() {
        size();
        places();
        overlaps();
        quarrels();
        quarrelsOfCells();
        touches();
        runs();
        openRuns();
        runsThatCan();
        emptyList();
        mayLie();
        worthOfTwo();
        worthOfAll();
        lay();
        layRefused();
        take();
        place();
        sheet();
        whose();
        words();
        read();
        worth();
    }

    private static TornReeds with(String... texts) {
        TornReeds x = new TornReeds();
        for (int b = 0; b < texts.length; b++) {
            Due.bit(x, b, texts[b]);
        }
        return x;
    }

    private static TornReeds withWords(String... words) {
        TornReeds x = new TornReeds();
        for (String word : words) {
            Due.word(x, word);
        }
        return x;
    }

    /** Whether a BIT of a text alone may lie by the words of THE LIST. */
    private static boolean can(String text, String... words) {
        TornReeds x = withWords(words);
        Due.bit(x, 0, text);
        return x.lay(0, 8, 8);
    }

    private void size() {
        s.says("Terms I", "THE SHEET has 16 ROWS of 32 CELLS.");
        TornReeds x = with("a", "b", "c", "d");
        s.is("the first CELL", x.lay(0, 0, 0), true);
        s.is("the last one of the first ROW", x.lay(1, 0, 31), true);
        s.is("the first one of the last ROW", x.lay(2, 15, 0), true);
        s.is("the last one", x.lay(3, 15, 31), true);
        s.is("the first CELL", x.sheet(0, 0), 'a');
        s.is("the last one of the first ROW", x.sheet(0, 31), 'b');
        s.is("the first one of the last ROW", x.sheet(15, 0), 'c');
        s.is("the last one", x.sheet(15, 31), 'd');
        x.take(0);
        s.is("no ROW 16", x.lay(0, 16, 0), false);
        s.is("no ROW -1", x.lay(0, -1, 0), false);
        s.is("no column 32", x.lay(0, 0, 32), false);
        s.is("no column -1", x.lay(0, 1, -1), false);
        for (int far : FAR) {
            s.is("no ROW " + far, x.lay(0, far, 5), false);
            s.is("no column " + far, x.lay(0, 5, far), false);
        }
        s.is("no CELL in ROW 16", x.sheet(16, 0), -1);
        s.is("no CELL in column 32", x.sheet(0, 32), -1);
    }

    private void places() {
        s.says("Terms I", "A BIT lies at a place (row, column of its first ROW's first CELL),"
                + " all CELLS that are not _ within THE SHEET,");
        TornReeds x = with("_a", ";b", LARGE, ";;;;_________e", "f_________;;;;");
        x.lay(0, 3, 4);
        s.is("the first CELL is nothing", x.sheet(3, 4), '_');
        s.is("so the letter is the next one", x.sheet(3, 5), 'a');
        s.lies("that it is", x, 0, 3, 4);
        x.lay(1, 8, 4);
        s.is("the first ROW is nothing", x.sheet(9, 4), 'b');
        x.take(0);
        x.take(1);
        int[][] without = {{-1, 0}, {0, -1}, {12, 0}, {0, 23}, {12, 22}, {11, 23}, {-4, 0}, {0, -9}, {15, 0}, {0, 31}};
        for (int[] p : without) {
            s.is("a CELL is without at " + p[0] + " " + p[1], x.lay(2, p[0], p[1]), false);
        }
        for (int[] p : new int[][] {{0, 0}, {11, 0}, {0, 22}, {11, 22}}) {
            s.is("all are within at " + p[0] + " " + p[1], x.lay(2, p[0], p[1]), true);
            s.is("it can be taken from there", x.take(2), true);
        }
        s.is("what is _ may be without, above and ahead", x.lay(3, -4, -9), true);
        s.is("as its only CELL is within", x.sheet(0, 0), 'e');
        x.take(3);
        s.is("one ROW farther it is not", x.lay(3, -5, -9), false);
        s.is("one column farther it is not", x.lay(3, -4, -10), false);
        s.is("the last place", x.lay(3, 11, 22), true);
        s.is("what is _ may be without, below and behind", x.lay(4, 15, 30), true);
        x.take(3);
        s.is("not beyond the last ROW", x.lay(3, 12, 22), false);
        s.is("not beyond the last column", x.lay(3, 11, 23), false);
    }

    private void overlaps() {
        s.says("Terms I", "none where another BIT has one.");
        TornReeds x = with("a_,", "b", ",", "_.", "cd;_e");
        x.lay(0, 5, 5);
        s.is("a letter on a letter", x.lay(1, 5, 5), false);
        s.is("a letter on a blank", x.lay(1, 5, 7), false);
        s.is("a blank on a letter", x.lay(2, 5, 5), false);
        s.is("a blank on a blank", x.lay(2, 5, 7), false);
        s.is("one of several on a letter", x.lay(4, 4, 4), false);
        s.is("what is _ may be on a letter", x.lay(3, 5, 5), true);
        s.is("as it is in the gap", x.sheet(5, 6), '.');
        s.is("the letter is still there", x.sheet(5, 5), 'a');
        s.is("the gap is taken", x.lay(1, 5, 6), false);
        x.take(3);
        s.is("what was taken is no more in the way", x.lay(1, 5, 6), true);
    }

    private void quarrels() {
        s.says("Terms I", "Two BITS QUARREL, if in some ROW of THE SHEET both have CELLS,"
                + " and FIBRES across that are told and unlike; or in some column FIBRES down.");
        TornReeds x = with("a;b;c", "d", "e;f");
        x.fibre(0, true, 0, 1);
        x.fibre(0, true, 2, 2);
        x.fibre(1, true, 0, 1);
        x.lay(0, 6, 0);
        s.is("alike, however far", x.lay(1, 6, 31), true);
        x.take(1);
        s.is("not told by one", x.lay(1, 7, 31), true);
        x.take(1);
        s.is("unlike, however far", x.lay(1, 8, 31), false);
        s.is("unlike, side by side", x.lay(1, 8, 1), false);
        s.is("in no ROW of both, above", x.lay(1, 5, 31), true);
        x.take(1);
        s.is("in no ROW of both, below", x.lay(1, 9, 31), true);
        x.take(1);
        x.fibre(1, true, 0, 99);
        s.is("the least and the greatest", x.lay(1, 6, 31), false);
        x.fibre(2, true, 0, 1);
        x.fibre(2, true, 1, 5);
        s.is("one ROW is alike, the other not told", x.lay(2, 6, 20), true);
        x.take(2);
        s.is("alike in none, unlike in the second", x.lay(2, 7, 20), false);
        s.is("unlike in its second ROW alone", x.lay(2, 5, 20), false);
        s.is("below all", x.lay(2, 9, 20), true);
        TornReeds y = with("abc", "d", "ef");
        y.fibre(0, false, 0, 1);
        y.fibre(0, false, 2, 2);
        y.fibre(1, false, 0, 1);
        y.lay(0, 0, 6);
        s.is("down: alike, however far", y.lay(1, 15, 6), true);
        y.take(1);
        s.is("down: not told by one", y.lay(1, 15, 7), true);
        y.take(1);
        s.is("down: unlike, however far", y.lay(1, 15, 8), false);
        s.is("down: in no column of both, ahead", y.lay(1, 15, 5), true);
        y.take(1);
        s.is("down: in no column of both, behind", y.lay(1, 15, 9), true);
        y.fibre(2, false, 1, 5);
        s.is("down: unlike in the second column", y.lay(2, 15, 7), false);
        s.is("down: unlike in its second column alone", y.lay(2, 15, 5), false);
        s.is("down: behind all", y.lay(2, 14, 9), true);
        TornReeds z = with("a_;_b", "c");
        z.fibre(0, true, 0, 5);
        z.fibre(0, false, 1, 6);
        z.lay(0, 4, 4);
        z.fibre(1, true, 0, 5);
        z.fibre(1, false, 0, 7);
        s.is("alike in a ROW, unlike in a column", z.lay(1, 4, 5), false);
        z.fibre(1, true, 0, 7);
        z.fibre(1, false, 0, 6);
        s.is("unlike in a ROW, alike in a column", z.lay(1, 4, 5), false);
        z.fibre(1, true, 0, 5);
        s.is("alike in both", z.lay(1, 4, 5), true);
    }

    private void quarrelsOfCells() {
        TornReeds x = with("a_c;_;b", "d", "e");
        x.fibre(0, true, 1, 3);
        x.fibre(0, true, 4, 3);
        x.fibre(0, false, 1, 3);
        x.fibre(0, false, 9, 3);
        x.fibre(1, true, 0, 4);
        x.fibre(1, false, 0, 4);
        x.lay(0, 5, 5);
        s.is("a ROW without CELLS", x.lay(1, 6, 20), true);
        x.take(1);
        s.is("a column without CELLS", x.lay(1, 14, 6), true);
        x.take(1);
        s.is("a ROW below all of its own", x.lay(1, 9, 20), true);
        x.take(1);
        s.is("a column behind all of its own", x.lay(1, 14, 14), true);
        x.take(1);
        s.is("a ROW that is not told, a column without CELLS", x.lay(1, 5, 6), true);
        x.fibre(2, true, 0, 5);
        s.is("with any one that lies, not the nearest alone", x.lay(2, 5, 31), false);
        x.take(1);
        s.is("with none that was taken", x.lay(2, 5, 31), true);
        TornReeds y = with("a", "b", "c", "d");
        for (int b = 0; b < 4; b++) {
            y.fibre(b, true, 0, b < 3 ? 7 : 8);
            y.lay(b, 0, 4 * b);
        }
        s.is("unlike three", y.place(3, 0), -1);
        y.take(0);
        y.take(2);
        s.is("unlike one that stays", y.lay(3, 0, 20), false);
        y.take(1);
        s.is("unlike none", y.lay(3, 0, 20), true);
        s.is("now this one is unlike", y.lay(0, 0, 0), false);
        TornReeds z = with("a", "b");
        z.fibre(0, true, 0, 3);
        z.fibre(1, false, 0, 4);
        z.lay(0, 5, 5);
        s.is("one across and one down, in a ROW", z.lay(1, 5, 9), true);
        z.take(1);
        s.is("one across and one down, in a column", z.lay(1, 9, 5), true);
        TornReeds w = with("ab;cd", "e");
        Due.bit(w, 0, "a");
        w.fibre(0, true, 1, 3);
        w.fibre(0, false, 1, 3);
        w.fibre(1, true, 0, 4);
        w.fibre(1, false, 0, 4);
        w.lay(0, 5, 5);
        s.is("a ROW in which it had CELLS before it was told anew", w.lay(1, 6, 20), true);
        w.take(1);
        s.is("a column in which it had CELLS before", w.lay(1, 14, 6), true);
    }

    private void touches() {
        s.says("Terms I", "They TOUCH, if a CELL of one has a CELL of the other at a side.");
        int[][] corners = {{0, 0, 2}, {0, 31, 2}, {15, 0, 2}, {15, 31, 2}, {0, 5, 3}, {15, 5, 3}, {5, 0, 3}, {5, 31, 3},
            {5, 5, 4}, {1, 1, 4}, {14, 30, 4}};
        for (int[] at : corners) {
            TornReeds x = with("a", "b", ",", "_c");
            x.lay(0, at[0], at[1]);
            s.is("a letter by one at " + at[0] + " " + at[1], x.joins(1), at[2]);
            s.is("a blank by one at " + at[0] + " " + at[1], x.joins(2), at[2]);
            s.is("one behind nothing by one at " + at[0] + " " + at[1], x.joins(3), at[2]);
        }
        TornReeds x = with("a_a", "b", "b_b");
        x.lay(0, 5, 5);
        s.is("at the sides of two CELLS, the gap among them", x.joins(1), 7);
        s.is("CELLS with a gap, by CELLS with a gap", x.joins(2), 10);
    }

    private void runs() {
        s.says("Terms I", "A RUN: letters and . side by side in a ROW of THE SHEET, as many as there can be.");
        s.is("a . is of it", can("a.c", "abc"), true);
        s.is("as many as there are", can("a.cd", "abc"), false);
        s.is("nothing parts it", can("a_c", "a", "c"), true);
        s.is("a blank parts it", can("a,c", "a", "c"), true);
        s.is("ROWS part it", can("a;c", "a", "c"), true);
        s.is("nothing else does", can("ac", "a", "c"), false);
        TornReeds x = withWords("abcdefghij", "k");
        for (int b = 0; b < 10; b++) {
            Due.bit(x, b, "" + (char) ('a' + b));
            s.is("ten letters of ten BITS", x.lay(b, 15, 22 + b), true);
        }
        for (int column = 22; column < 32; column++) {
            s.is("all of them one RUN", x.words(15, column), 1);
        }
        Due.bit(x, 9, "k");
        s.is("nine and another one", x.lay(9, 15, 31), false);
        s.is("it is none of the RUN above", x.lay(9, 14, 31), true);
        TornReeds y = withWords("a", "b");
        Due.bit(y, 0, "a");
        Due.bit(y, 1, "b");
        y.lay(0, 0, 31);
        s.is("it does not go on in the next ROW", y.lay(1, 1, 0), true);
        s.is("it ends with the ROW", y.words(0, 31), 1);
        s.is("it begins with the ROW", y.words(1, 0), 1);
        s.is("nor is what it goes on with below", y.take(1) && y.lay(1, 1, 31), true);
        s.is("but with what is ahead of it", y.take(1) && y.lay(1, 0, 30), false);
        TornReeds z = withWords("ab", "xb");
        Due.bit(z, 0, "x");
        Due.bit(z, 1, "a");
        z.lay(0, 0, 0);
        s.is("it is from THE SHEET's first column on", z.lay(1, 0, 1), false);
        z.take(0);
        z.lay(0, 0, 31);
        s.is("it is up to THE SHEET's last column", z.lay(1, 0, 30), false);
    }

    private void openRuns() {
        s.says("Terms I", "It is OPEN at an end, if there is nothing (no CELL, or THE SHEET's end),"
                + " else CLOSED (a blank).");
        TornReeds x = withWords("abc");
        Due.bit(x, 0, "b");
        Due.bit(x, 1, ",");
        for (int[] at : new int[][] {{0, 0}, {0, 31}, {15, 0}, {15, 31}, {7, 0}, {7, 31}, {7, 15}}) {
            s.is("OPEN at " + at[0] + " " + at[1], x.lay(0, at[0], at[1]), true);
            s.is("with nothing about it", x.words(at[0], at[1]), 1);
            x.take(0);
        }
        x.lay(0, 5, 5);
        s.is("a blank ahead", x.lay(1, 5, 4), false);
        s.is("a blank behind", x.lay(1, 5, 6), false);
        for (int[] at : new int[][] {{4, 5}, {6, 5}, {5, 3}, {5, 7}}) {
            s.is("a blank elsewhere, at " + at[0] + " " + at[1], x.lay(1, at[0], at[1]), true);
            x.take(1);
        }
        x.take(0);
        x.lay(0, 5, 0);
        s.is("a blank at the end of the ROW above", x.lay(1, 4, 31), true);
        x.take(0);
        x.take(1);
        x.lay(0, 5, 31);
        s.is("a blank at the beginning of the ROW below", x.lay(1, 6, 0), true);
        s.is("a blank is no RUN", can(",", "abc"), true);
        s.is("nothing between a blank and it", can(",_b_,", "abc"), true);
        s.is("two blanks", can(",,a", "abc"), true);
    }

    private void runsThatCan() {
        s.says("Terms I", "It CAN be a word of THE LIST, if that has, from some letter on, just these letters"
                + " ( . is any), the RUN beginning with its first letter if it is CLOSED ahead, ending with its last one"
                + " if it is CLOSED behind.");
        String[] can = {"a", "b", "c", ".", "ab", "bc", "ca", "bca", "abcab", ".....", ".b.a", "....b", ",a", ",ab",
            ",abcab", ",..", ",.", "b,", "ab,", "cab,", "abcab,", "..,", ",abcab,", ",.....,", ",a...b,", ",..c..,"};
        for (String text : can) {
            s.is("it can: " + text, can(text, "abcab"), true);
        }
        String[] cannot = {"d", "z", "ac", "ba", "bb", "abcabc", "abcaba", "......", "a.b", "cc", ",b", ",ca", ",.a",
            ",c", "a,", "bc,", "ca,", "c.,", ",ab,", ",a,", ",b,", ",....,", ",......,", ",.,", ",abca,", ",bcab,"};
        for (String text : cannot) {
            s.is("it can not: " + text, can(text, "abcab"), false);
        }
        s.is("a word of one letter", can(",q,", "q"), true);
        s.is("its only letter", can("q", "q"), true);
        s.is("no more than it", can("q.", "q"), false);
        s.is("a word of ten letters", can("abcdefghij", "abcdefghij"), true);
        s.is("any ten letters", can("..........", "abcdefghij"), true);
        s.is("CLOSED ahead", can(",abcdefghi", "abcdefghij"), true);
        s.is("CLOSED behind", can("bcdefghij,", "abcdefghij"), true);
        s.is("its beginning is not its end", can("abcdefghi,", "abcdefghij"), false);
        s.is("no word leads into the next one", can("ab", "a", "b"), false);
        s.is("nor into itself", can("aa", "a", "a"), false);
        s.is("nor ten letters into the next one", can("ja", "abcdefghij", "abcdefghij"), false);
        s.is("no letter of the one with one of the other", can("ad", "ab", "cd"), false);
    }

    private void emptyList() {
        s.says("Terms I", "(With an empty LIST any RUN can.)");
        s.is("any letters", can("zqxjk"), true);
        s.is("CLOSED", can(",zq,x,"), true);
        TornReeds x = with(LARGE, LARGE, LARGE, "..;..;..;..;..");
        for (int b = 0; b < 4; b++) {
            s.is("RUNS as long as a ROW", x.lay(b, 11, 10 * b), true);
        }
        s.is("they are none of its words", x.words(15, 31), 0);
        x.take(3);
        Due.word(x, "abcdefghij");
        s.is("with one word they can't", x.lay(3, 11, 30), false);
    }

    private void mayLie() {
        s.says("Terms I", "BITS may lie, if no two QUARREL and each RUN of THE SHEET then can be some word.");
        s.is("each can be another word", can(",ab,cd,", "ab", "cd"), true);
        s.is("the last one can be none", can(",ab,ce,", "ab", "cd"), false);
        s.is("the first one can be none", can(",ae,cd,", "ab", "cd"), false);
        s.is("the one below can be none", can("ab;cd;a;b;e", "ab", "cd"), false);
        s.is("all five can", can("ab;cd;a;b;d", "ab", "cd"), true);
        s.is("the one behind nothing can be none", can("a____b___e", "ab", "cd"), false);
        TornReeds x = with("q", ",", "ab");
        x.lay(0, 0, 0);
        Due.word(x, "ab");
        s.is("one that lay can be none", x.lay(2, 9, 9), false);
        s.is("so that not even a blank may lie", x.lay(1, 15, 31), false);
        x.take(0);
        s.is("now all can", x.lay(2, 9, 9), true);
        s.is("a blank that leaves it so", x.lay(1, 9, 8), true);
        x.take(1);
        Due.bit(x, 3, "a");
        s.is("one that makes another one's RUN too long", x.lay(3, 9, 11), false);
        s.is("one that makes it too long ahead", x.lay(3, 9, 8), false);
        s.is("one below it", x.lay(3, 10, 9), true);
        x.take(3);
        x.fibre(3, true, 0, 5);
        x.take(2);
        x.fibre(2, true, 0, 6);
        x.lay(2, 9, 9);
        s.is("one that can be a word, but QUARRELS", x.lay(3, 9, 20), false);
        x.fibre(3, true, 0, 6);
        s.is("one that QUARRELS no more", x.lay(3, 9, 20), true);
    }

    private void worthOfTwo() {
        s.says("Terms I", "WORTH of two BITS that lie: 2 for each ROW, and for each column, in which both have CELLS"
                + " and FIBRES that are told and alike, and 1 for each pair of CELLS, one of each, side by side.");
        TornReeds x = with("a_;_b", "_c;d_");
        for (int b = 0; b < 2; b++) {
            for (int i = 0; i < 2; i++) {
                x.fibre(b, true, i, 10 + i);
                x.fibre(b, false, i, 20 + i);
            }
        }
        x.lay(0, 4, 4);
        x.lay(1, 4, 4);
        s.is("two ROWS, two columns, four pairs of CELLS", x.worth(), 12);
        x.take(1);
        x.lay(1, 4, 20);
        s.is("two ROWS, however far", x.worth(), 4);
        x.take(1);
        x.lay(1, 11, 4);
        s.is("two columns, however far", x.worth(), 4);
        x.take(1);
        x.lay(1, 11, 20);
        s.is("neither", x.worth(), 0);
        TornReeds y = with("a;_;b", "c;d;e");
        for (int i = 0; i < 5; i++) {
            y.fibre(0, true, i, 7);
            y.fibre(1, true, i, 7);
        }
        y.lay(0, 0, 0);
        y.lay(1, 0, 9);
        s.is("not for a ROW in which one has no CELL", y.worth(), 4);
        y.take(1);
        y.fibre(1, true, 0, 0);
        y.lay(1, 0, 9);
        s.is("not for one that is not told", y.worth(), 2);
        pairsOfCells();
    }

    private void pairsOfCells() {
        TornReeds x = with("abc", "def", "g;_h", ",");
        x.lay(0, 5, 5);
        x.lay(1, 6, 5);
        s.is("three, one above the other", x.worth(), 3);
        x.take(1);
        x.lay(1, 5, 8);
        s.is("one behind the other", x.worth(), 1);
        x.take(1);
        x.lay(1, 5, 2);
        s.is("one ahead of the other", x.worth(), 1);
        x.take(1);
        x.lay(1, 4, 7);
        s.is("the last by the first", x.worth(), 1);
        x.take(1);
        x.lay(1, 4, 8);
        s.is("corner by corner", x.worth(), 0);
        x.take(1);
        x.lay(2, 4, 7);
        s.is("one CELL at two sides of it", x.worth(), 2);
        s.is("a blank as well", x.lay(3, 6, 5), true);
        s.is("one more", x.worth(), 3);
        TornReeds y = with("a", "b", "c");
        y.lay(0, 5, 31);
        y.lay(1, 6, 0);
        y.lay(2, 15, 31);
        s.is("not over THE SHEET's end", y.worth(), 0);
        y.take(1);
        y.lay(1, 0, 31);
        s.is("nor over its last ROW", y.worth(), 0);
    }

    private void worthOfAll() {
        s.says("Terms I", "WORTH of THE SHEET: of all pairs.");
        TornReeds x = new TornReeds();
        for (int b = 0; b < 10; b++) {
            s.is("of " + b + " BITS in a ROW", x.worth(), b * (b - 1));
            Due.bit(x, b, ",");
            x.fibre(b, true, 0, 50);
            x.lay(b, 3, 3 * b);
        }
        s.is("of ten BITS in a ROW", x.worth(), 90);
        x.take(4);
        s.is("of nine of them", x.worth(), 72);
        x.lay(4, 3, 13);
        s.is("at another place", x.worth(), 90);
        x.take(4);
        x.lay(4, 3, 14);
        s.is("at the next one's side", x.worth(), 91);
        TornReeds y = with("ab", "c", "d");
        y.lay(0, 5, 5);
        y.lay(1, 6, 5);
        y.lay(2, 6, 6);
        s.is("each at the sides of both others", y.worth(), 3);
    }

    private void lay() {
        s.says("Promise 8", "A BIT is laid at a place: true;");
        TornReeds x = with("ab;_c", "d");
        s.is("it is laid", x.lay(0, 2, 3), true);
        s.lies("there", x, 0, 2, 3);
        s.is("with its signs", x.sheet(2, 4), 'b');
        s.is("in each of its ROWS", x.sheet(3, 4), 'c');
        s.is("and no others", x.sheet(3, 3), '_');
        s.is("as its own", x.whose(3, 4), 0);
        s.is("another one need not TOUCH it", x.lay(1, 14, 30), true);
    }

    private void layRefused() {
        s.says("Promise 8", "false when it lies, there is none such, or all may not lie so.");
        TornReeds x = with("ab", "c");
        x.fibre(0, true, 0, 1);
        x.fibre(1, true, 0, 2);
        x.lay(0, 2, 3);
        s.is("it lies there already", x.lay(0, 2, 3), false);
        s.is("it lies elsewhere", x.lay(0, 9, 9), false);
        s.lies("it stays", x, 0, 2, 3);
        s.is("it is not laid twice", x.sheet(9, 9), '_');
        s.is("a BIT that was never told", x.lay(2, 0, 0), false);
        for (int b : NO_BITS) {
            s.is("number " + b, x.lay(b, 0, 0), false);
        }
        s.is("without THE SHEET", x.lay(1, 16, 0), false);
        s.is("on another one", x.lay(1, 2, 4), false);
        s.is("in a QUARREL", x.lay(1, 2, 31), false);
        Due.word(x, "ab");
        s.is("as no word", x.lay(1, 5, 5), false);
        s.is("refused, it does not lie", x.place(1, 0), -1);
        s.is("nothing of it is there", x.sheet(5, 5), '_');
        s.is("nor is it anywhere its own", x.whose(2, 31), -1);
        s.is("what it was to be on is as it was", x.sheet(2, 4), 'b');
        s.is("nor is it worth anything", x.worth(), 0);
        s.is("its FIBRE can still be told", x.fibre(1, true, 0, 2), 2);
    }

    private void take() {
        s.says("Promise 9", "A BIT lies no more: true;");
        TornReeds x = with("ab;c", "d", "e");
        x.fibre(0, true, 0, 4);
        x.fibre(1, true, 0, 5);
        x.lay(0, 2, 3);
        s.is("it lay", x.take(0), true);
        s.is("it lies no more", x.place(0, 0), -1);
        s.is("no sign of it", x.sheet(2, 4), '_');
        s.is("nor below", x.sheet(3, 3), '_');
        s.is("nor is it its own", x.whose(2, 3), -1);
        s.is("its FIBRE is unlike none", x.lay(1, 2, 3), true);
        s.is("its CELLS are there", x.cell(0, 1, 0), 'c');
        s.is("it can be laid", x.lay(0, 5, 5), true);
        s.is("and taken again", x.take(0), true);
        s.says("Promise 9", "false when it did not.");
        s.is("twice", x.take(0), false);
        s.is("never laid", x.take(2), false);
        s.is("never told", x.take(3), false);
        for (int b : NO_BITS) {
            s.is("number " + b, x.take(b), false);
        }
        s.is("the one that lies stays", x.place(1, 0), 2);
        s.says("Promise 9", "(Those that stay need not TOUCH.)");
        x.take(1);
        x.fibre(1, true, 0, 0);
        x.lay(0, 2, 3);
        x.lay(1, 2, 5);
        x.lay(2, 2, 6);
        s.is("the one between goes", x.take(1), true);
        s.lies("the one ahead stays", x, 0, 2, 3);
        s.lies("the one behind stays", x, 2, 2, 6);
        s.is("they are worth nothing", x.worth(), 0);
    }

    private void place() {
        s.says("Promise 10", "Of a BIT that lies: 0 its row, 1 its column;");
        TornReeds x = with(";;;;_________a", "b");
        x.lay(1, 15, 31);
        s.is("its row", x.place(1, 0), 15);
        s.is("its column", x.place(1, 1), 31);
        x.lay(0, -3, -8);
        s.is("a row below 0", x.place(0, 0), -3);
        s.is("a column below 0", x.place(0, 1), -8);
        s.says("Promise 10", "NONE when it does not, or for others.");
        for (int what : new int[] {-1, 2, 3, LEAST, GREATEST}) {
            s.is("what is " + what, x.place(1, what), -1);
        }
        x.take(1);
        s.is("no more", x.place(1, 0), -1);
        s.is("no more, its column", x.place(1, 1), -1);
        s.is("never told", x.place(2, 0), -1);
        for (int b : NO_BITS) {
            s.is("number " + b, x.place(b, 0), -1);
            s.is("number " + b, x.place(b, 1), -1);
        }
    }

    private void sheet() {
        s.says("Promise 11", "What THE SHEET has in a CELL (the sign; _ if nothing);");
        TornReeds x = with("a.;,_z");
        x.lay(0, 14, 29);
        s.is("a letter", x.sheet(14, 29), 'a');
        s.is("an unread letter", x.sheet(14, 30), '.');
        s.is("a blank", x.sheet(15, 29), ',');
        s.is("where a BIT has nothing", x.sheet(15, 30), '_');
        s.is("the last CELL", x.sheet(15, 31), 'z');
        s.is("where there is none", x.sheet(0, 0), '_');
        s.says("Promise 11", "NONE when there is none such.");
        for (int i : new int[] {-1, 16, 32, LEAST, GREATEST}) {
            s.is("row " + i, x.sheet(i, 0), -1);
            s.is("row " + i + " by the last column", x.sheet(i, 31), -1);
        }
        for (int i : new int[] {-1, 32, 33, LEAST, GREATEST}) {
            s.is("column " + i, x.sheet(0, i), -1);
            s.is("column " + i + " by the last row", x.sheet(15, i), -1);
        }
        s.is("row -1 by column 32", x.sheet(-1, 32), -1);
        s.is("row 16 by column -32", x.sheet(16, -32), -1);
    }

    private void whose() {
        s.says("Promise 12", "Which BIT has that CELL;");
        TornReeds x = with("_a_,", ".", "b", "b", "b", "b", "b", "b", "b", "b");
        x.lay(0, 15, 28);
        x.lay(1, 15, 30);
        x.lay(9, 0, 0);
        s.is("a letter's", x.whose(15, 29), 0);
        s.is("a blank's", x.whose(15, 31), 0);
        s.is("in another one's gap", x.whose(15, 30), 1);
        s.is("the last BIT's", x.whose(0, 0), 9);
        s.says("Promise 12", "NONE when none has.");
        s.is("where a BIT has nothing", x.whose(15, 28), -1);
        s.is("where there is none", x.whose(7, 7), -1);
        for (int i : new int[] {-1, 16, 32, LEAST, GREATEST}) {
            s.is("row " + i, x.whose(i, 0), -1);
        }
        for (int i : new int[] {-1, 32, 33, LEAST, GREATEST}) {
            s.is("column " + i, x.whose(0, i), -1);
        }
        s.is("row -1 by column 32", x.whose(-1, 32), -1);
        s.is("row 1 by column -32", x.whose(1, -32), -1);
        x.take(9);
        s.is("where one was taken", x.whose(0, 0), -1);
    }

    private void words() {
        s.says("Promise 13", "How many words of THE LIST the RUN can be that has a CELL of THE SHEET;");
        TornReeds x = with("b.", ",", "c", "q");
        x.lay(0, 5, 5);
        x.lay(3, 15, 31);
        for (String word : new String[] {"bc", "abcd", "cb", "bb", "b", "bc"}) {
            Due.word(x, word);
        }
        s.is("OPEN at both ends", x.words(5, 5), 4);
        s.is("from any of its CELLS", x.words(5, 6), 4);
        s.is("none of them", x.words(15, 31), 0);
        x.take(3);
        x.lay(1, 5, 4);
        s.is("CLOSED ahead", x.words(5, 6), 3);
        x.take(1);
        x.lay(1, 5, 7);
        s.is("CLOSED behind", x.words(5, 5), 3);
        x.take(1);
        Due.word(x, "bac");
        x.lay(2, 5, 7);
        s.is("with what another BIT has", x.words(5, 5), 1);
        s.is("from that one's CELL", x.words(5, 7), 1);
        TornReeds y = withWords("z", "z", "z", "z", "z", "z", "z", "z", "z", "z", "z", "z");
        Due.bit(y, 0, ".");
        y.lay(0, 15, 31);
        s.is("all twelve", y.words(15, 31), 12);
        longWords();
        wordsRefused();
    }

    /** Twelve words of ten letters, each with all letters but one of the next. */
    private void longWords() {
        TornReeds x = new TornReeds();
        String letters = "abcdefghijklmnopqrstuv";
        for (int n = 0; n < 12; n++) {
            Due.word(x, letters.substring(n, n + 10));
        }
        for (int n = 0; n < 12; n++) {
            Due.bit(x, 0, letters.substring(n, n + 10));
            s.is("ten letters of word " + n, x.lay(0, 5, 5), true);
            s.is("it alone", x.words(5, 5), 1);
            s.is("its number", x.read(5, 14, 0), n);
            Due.bit(x, 0, letters.substring(n + 1, n + 10));
            s.is("nine letters", x.lay(0, 5, 5), true);
            s.is("of it and the next", x.words(5, 5), n < 11 ? 2 : 1);
            Due.bit(x, 0, letters.substring(n + 1, n + 10) + ",");
            s.is("its last nine letters", x.lay(0, 5, 5), true);
            s.is("of it alone", x.words(5, 13), 1);
            s.is("its number again", x.read(5, 5, 0), n);
        }
    }

    private void wordsRefused() {
        s.says("Promise 13", "NONE when there is no letter or . (with an empty LIST 0).");
        TornReeds x = with("a,_.");
        s.is("nothing lies there", x.words(0, 0), -1);
        x.lay(0, 0, 28);
        s.is("an empty LIST", x.words(0, 28), 0);
        s.is("an empty LIST, an unread letter", x.words(0, 31), 0);
        s.is("an empty LIST, a blank", x.words(0, 29), -1);
        Due.word(x, "a");
        s.is("a letter", x.words(0, 28), 1);
        s.is("a blank", x.words(0, 29), -1);
        s.is("nothing", x.words(0, 30), -1);
        for (int i : new int[] {-1, 16, 32, LEAST, GREATEST}) {
            s.is("row " + i, x.words(i, 28), -1);
        }
        for (int i : new int[] {-1, 32, LEAST, GREATEST}) {
            s.is("column " + i, x.words(0, i), -1);
        }
        s.is("row 1 by column -1", x.words(1, -1), -1);
        s.is("row -1 by column 60", x.words(-1, 60), -1);
    }

    private void read() {
        s.says("Promise 14", "The k-th of these (its number in THE LIST, from 0 on);");
        TornReeds x = withWords("ab", "c", "ab", "b", "cab", "c", "c", "b", "c", "c", "c", "ab");
        Due.bit(x, 0, "b");
        x.lay(0, 5, 5);
        int[] numbers = {0, 2, 3, 4, 7, 11};
        for (int k = 0; k < numbers.length; k++) {
            s.is("k is " + k, x.read(5, 5, k), numbers[k]);
        }
        s.is("as many as words tells", x.words(5, 5), numbers.length);
        Due.bit(x, 2, "ca");
        x.lay(2, 9, 9);
        s.is("of the RUN that has the CELL", x.read(5, 5, 0), 0);
        s.is("of another RUN", x.read(9, 9, 0), 4);
        s.is("of the first one again", x.read(5, 5, 1), 2);
        Due.bit(x, 1, ",");
        x.lay(1, 5, 4);
        s.is("CLOSED ahead, the first", x.read(5, 5, 0), 3);
        s.is("CLOSED ahead, the second", x.read(5, 5, 1), 7);
        s.says("Promise 14", "NONE when there is none such.");
        for (int k : new int[] {-1, 2, 3, 12, LEAST, GREATEST}) {
            s.is("k is " + k, x.read(5, 5, k), -1);
        }
        s.is("a blank", x.read(5, 4, 0), -1);
        s.is("nothing", x.read(5, 6, 0), -1);
        for (int i : new int[] {-1, 16, 32, LEAST, GREATEST}) {
            s.is("row " + i, x.read(i, 5, 0), -1);
            s.is("column " + i, x.read(5, i, 0), -1);
        }
        TornReeds y = with("q");
        y.lay(0, 0, 0);
        s.is("an empty LIST", y.read(0, 0, 0), -1);
        Due.word(y, "a");
        s.is("a RUN that can be none", y.read(0, 0, 0), -1);
    }

    private void worth() {
        s.says("Promise 15", "WORTH of THE SHEET.");
        TornReeds x = with("ab", "c", "d");
        s.is("nothing lies", x.worth(), 0);
        x.fibre(0, true, 0, 3);
        x.fibre(2, true, 0, 3);
        x.lay(0, 5, 5);
        s.is("one lies", x.worth(), 0);
        x.lay(1, 6, 5);
        s.is("two CELLS side by side", x.worth(), 1);
        x.lay(2, 5, 7);
        s.is("one more, and a FIBRE", x.worth(), 4);
        x.take(0);
        s.is("without the one between", x.worth(), 0);
        x.lay(0, 5, 5);
        s.is("with it again", x.worth(), 4);
        Due.bit(x, 0, "ab");
        s.is("when it is told anew", x.worth(), 0);
    }
}
