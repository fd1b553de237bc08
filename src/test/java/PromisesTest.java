/** Each promise of DOC.md by hand: ordinary inputs, the edges that it names, and wrong inputs. */
public final class PromisesTest {
    private static final Due due = new Due("promises");
    private static final int LEAST = Integer.MIN_VALUE;
    private static final int GREATEST = Integer.MAX_VALUE;

    public static void main(String[] args) {
        aNewObject();
        feed();
        end();
        bit();
        bitThatLay();
        cell();
        fibre();
        word();
        lay();
        layByFibres();
        layByWords();
        take();
        place();
        sheetAndWhose();
        words();
        read();
        worth();
        joinOfOne();
        joinOfTwo();
        joinOfTwoByWords();
        joinOfTwoLargeOnes();
        joinOfTwoTurnedOnes();
        joinOfTwoFarApart();
        joinOfTwoInTheCorner();
        joinOfTwoByShiftedFibres();
        joinOfTwoThatTouch();
        joinRefused();
        joins();
        roll();
        hole();
        stood();
        standing();
        known();
        stands();
        letter();
        width();
        due.close();
    }

    private static void aNewObject() {
        TornReeds x = new TornReeds();
        due.is("1: NONE", TornReeds.NONE, -1);
        for (int b = 0; b < 10; b++) {
            due.is("1: no BIT", x.cell(b, 0, 0), -1);
            due.is("1: none lies", x.place(b, 0), -1);
        }
        for (int row = 0; row < 16; row++) {
            for (int column = row % 2; column < 32; column += 2) {
                due.is("1: an empty SHEET", x.sheet(row, column), '_');
            }
        }
        due.is("1: worth nothing", x.worth(), 0);
        Due.bit(x, 0, "a");
        x.hole(0, 0);
        due.is("1: no ROLL", x.stood(0), -1);
        due.is("1: no ROLL to stand in", x.standing(0, 0), -1);
        due.is("1: no text", x.stands(0, 2), -1);
        due.is("1: no text, no letter", x.letter(0, 2, 0), -1000);
        due.is("1: no text, no width", x.width(0, 2, 60), -1);
        due.is("1: no LIST, so any RUN can", x.lay(0, 0, 0), true);
        due.is("1: no LIST", x.words(0, 0), 0);
        due.is("1: an empty tape", x.end(0), true);
        due.is("1: no more than an empty tape", x.end(1), false);
    }

    private static void feed() {
        TornReeds x = new TornReeds();
        // abcd efgh ijkl mnop qrst
        due.is("2: twenty", x.feed(0x61626364, 0x65666768, 0x696a6b6c, 0x6d6e6f70, 0x71727374), 20);
        due.is("2: behind those", x.feed(0x75767778, 0x797a6161, 0x62626363, 0x64646565, 0x66666767), 40);
        due.is("2: as a text", x.known(), 40);
        String said = "abcdefghijklmnopqrstuvwxyzaabbccddeeffgg";
        Due.bit(x, 0, "....,,");
        for (int i = 0; i < 40; i += 4) {
            Due.bit(x, 1, said.substring(i, i + 4));
            due.is("2: the highest byte first", x.stands(1, 60), 1);
            due.is("2: in this order", x.letter(1, 60, 0), i);
        }
        for (int i = 1; i <= 10; i++) {
            due.is("2: up to 200", x.feed(0x61616161, 0x61616161, 0x61616161, 0x61616161, 0x61616161), 20 * i);
        }
        due.is("2: no more than 200", x.feed(1, 2, 3, 4, 5), -1);
        due.is("2: doing nothing", x.known(), 200);
        due.is("2: anew", x.feed(-1, -1, -1, -1, -1), 20);
        due.is("2: bytes above 127 are no letters", x.known(), -1);
        for (int i = 1; i <= 10; i++) {
            x.feed(0, 0, 0, 0, 0);
        }
        x.end(181);
        due.is("2: 201 would be more", x.feed(0, 0, 0, 0, 0), -1);
        x.end(180);
        due.is("2: 200 are not", x.feed(0, 0, 0, 0, 0), 200);
    }

    private static void end() {
        TornReeds x = new TornReeds();
        x.feed(0x61626364, 0x65666768, 0x20202020, 0x20202020, 0x20202020);
        due.is("3: below 0", x.end(-1), false);
        due.is("3: far below 0", x.end(LEAST), false);
        due.is("3: not so many", x.end(21), false);
        due.is("3: by far not so many", x.end(GREATEST), false);
        due.is("3: all", x.end(20), true);
        due.is("3: the first ones", x.end(8), true);
        due.is("3: not those that went", x.end(9), false);
        due.is("3: behind them", x.feed(0x696a6b6c, 0x6d6e6f70, 0x71727374, 0x75767778, 0x797a6161), 28);
        due.is("3: a text", x.known(), 28);
        due.is("3: none", x.end(0), true);
        Due.bit(x, 0, "hij");
        due.is("3: joined there", x.letter(0, 60, 0), 7);
    }

    private static void bit() {
        TornReeds x = new TornReeds();
        due.is("4: no tape", x.bit(0), -1);
        due.is("4: letters", Due.bit(x, 0, "abz"), 3);
        due.is("4: all signs", Due.bit(x, 0, "a.,_z"), 4);
        due.is("4: a row behind each ;", Due.bit(x, 0, "a;b;c;d;e"), 5);
        due.is("4: one behind the last ;, too", Due.bit(x, 0, "a;b;c;d;"), 4);
        due.is("4: no sixth row", Due.bit(x, 0, "a;b;c;d;e;"), -1);
        due.is("4: nor with CELLS", Due.bit(x, 0, "a;b;c;d;e;f"), -1);
        due.is("4: rows with nothing", Due.bit(x, 0, ";;;;a"), 1);
        due.is("4: ten CELLS", Due.bit(x, 0, "abcdefghij;abcdefghij;..........;,,,,,,,,,,;zzzzzzzzzz"), 50);
        due.is("4: no eleventh", Due.bit(x, 0, "abcdefghijk"), -1);
        due.is("4: not even of nothing", Due.bit(x, 0, "a_________" + "_"), -1);
        due.is("4: nor in a later row", Due.bit(x, 0, "a;abcdefghijk"), -1);
        due.is("4: no CELL but _", Due.bit(x, 0, "__;_"), -1);
        due.is("4: no CELL at all", Due.bit(x, 0, ";;"), -1);
        due.is("4: a blank is one", Due.bit(x, 0, "_,_"), 1);
        for (String wrong : new String[] {"A", "Z", "`", "{", "a b", "-", "/", "0", ":", "\u0000", "\u00e1", "a\n"}) {
            due.is("4: no sign: " + wrong, Due.bit(x, 0, wrong), -1);
        }
        due.is("4: what was stays", x.cell(0, 0, 1), ',');
        due.is("4: bit 9", Due.bit(x, 9, "a"), 1);
        for (int b : new int[] {-1, 10, LEAST, GREATEST}) {
            due.is("4: no such number " + b, Due.bit(x, b, "a"), -1);
            due.is("4: the tape went", x.end(1), false);
        }
        Due.bit(x, 1, "a");
        due.is("4: the tape goes", x.end(1), false);
        Due.bit(x, 1, "A");
        due.is("4: in any case", x.end(1), false);
        x.fibre(1, true, 0, 7);
        x.fibre(1, false, 0, 8);
        x.hole(1, 5);
        Due.bit(x, 1, "A");
        due.is("4: refused, it keeps its holes", x.hole(1, 5), -1);
        due.is("4: and its FIBRES", x.fibre(1, true, 0, 7), 7);
        Due.bit(x, 1, "b");
        due.is("4: without FIBRES across", x.fibre(1, true, 0, 0), 0);
        due.is("4: without FIBRES down", x.fibre(1, false, 0, 0), 0);
        due.is("4: without holes", x.hole(1, 5), 1);
    }

    private static void bitThatLay() {
        TornReeds x = new TornReeds();
        Due.bit(x, 0, "ab;cd");
        x.fibre(0, true, 0, 3);
        x.lay(0, 2, 2);
        Due.bit(x, 0, "?");
        due.is("4: refused, it still lies", x.place(0, 0), 2);
        due.is("4: with its signs", x.sheet(3, 3), 'd');
        Due.bit(x, 0, "e");
        due.is("4: it lies no more", x.place(0, 0), -1);
        due.is("4: nothing is there", x.sheet(3, 3), '_');
        due.is("4: nobody is there", x.whose(2, 2), -1);
        Due.bit(x, 1, "f");
        x.fibre(1, true, 0, 4);
        due.is("4: its FIBRES went, too", x.lay(1, 2, 9), true);
        due.is("4: the new one can be laid", x.lay(0, 2, 2), true);
        due.is("4: nothing of the old one is beside it", x.sheet(2, 3), '_');
        x.take(0);
        x.take(1);
        x.lay(1, 2, 3);
        x.lay(0, 2, 2);
        due.is("4: it writes no more than it has", x.sheet(2, 3), 'f');
        x.take(0);
        due.is("4: nor wipes more", x.sheet(2, 3), 'f');
        due.is("4: nor takes more", x.whose(2, 3), 1);
    }

    private static void cell() {
        TornReeds x = new TornReeds();
        Due.bit(x, 3, "a.;,_z;;bcdefghijk");
        due.is("5: a letter", x.cell(3, 0, 0), 'a');
        due.is("5: an unread one", x.cell(3, 0, 1), '.');
        due.is("5: a blank", x.cell(3, 1, 0), ',');
        due.is("5: nothing", x.cell(3, 1, 1), '_');
        due.is("5: behind nothing", x.cell(3, 1, 2), 'z');
        due.is("5: behind a shorter row", x.cell(3, 0, 2), '_');
        due.is("5: an empty row", x.cell(3, 2, 0), '_');
        due.is("5: the tenth", x.cell(3, 3, 9), 'k');
        due.is("5: below its rows", x.cell(3, 4, 9), '_');
        for (int i : new int[] {-1, 10, LEAST, GREATEST}) {
            due.is("5: no such row", x.cell(3, i, 0), -1);
            due.is("5: no such column", x.cell(3, 0, i), -1);
            due.is("5: no such number", x.cell(i, 0, 0), -1);
        }
        due.is("5: no sixth row", x.cell(3, 5, 0), -1);
        due.is("5: no such BIT", x.cell(4, 0, 0), -1);
        Due.bit(x, 3, "b");
        due.is("5: of an earlier BIT nothing stays", x.cell(3, 3, 9), '_');
        Due.bit(x, 3, "_c");
        due.is("5: nor in the first CELL", x.cell(3, 0, 0), '_');
    }

    private static void fibre() {
        TornReeds x = new TornReeds();
        due.is("6: no such BIT", x.fibre(0, true, 0, 1), -1);
        Due.bit(x, 0, "a");
        due.is("6: it was not told", x.fibre(0, true, 0, 1), 0);
        due.is("6: down is another one", x.fibre(0, false, 0, 99), 0);
        due.is("6: what it was", x.fibre(0, true, 0, 0), 1);
        due.is("6: told no more", x.fibre(0, true, 0, 5), 0);
        due.is("6: down", x.fibre(0, false, 0, 99), 99);
        due.is("6: the last ROW", x.fibre(0, true, 4, 9), 0);
        due.is("6: the last column", x.fibre(0, false, 9, 9), 0);
        due.is("6: no such ROW", x.fibre(0, true, 5, 9), -1);
        due.is("6: no such column", x.fibre(0, false, 10, 9), -1);
        for (int i : new int[] {-1, LEAST, GREATEST, 100}) {
            due.is("6: no such ROW " + i, x.fibre(0, true, i, 9), -1);
            due.is("6: no such column " + i, x.fibre(0, false, i, 9), -1);
            due.is("6: no such FIBRE " + i, x.fibre(0, true, 0, i), -1);
            due.is("6: no such number " + i, x.fibre(i, true, 0, 1), -1);
        }
        due.is("6: refused, it stays", x.fibre(0, true, 0, 5), 5);
        x.lay(0, 0, 0);
        due.is("6: not of a BIT that lies", x.fibre(0, true, 0, 6), -1);
        x.take(0);
        due.is("6: it stayed", x.fibre(0, true, 0, 6), 5);
        Due.bit(x, 1, "b");
        due.is("6: of another BIT", x.fibre(1, true, 0, 6), 0);
    }

    private static void word() {
        TornReeds x = new TornReeds();
        due.is("7: no letters", Due.word(x, ""), -1);
        due.is("7: one letter", Due.word(x, "a"), 1);
        due.is("7: ten letters", Due.word(x, "abcdefghij"), 2);
        due.is("7: eleven", Due.word(x, "abcdefghijk"), -1);
        for (String wrong : new String[] {"a.", ".", ",", "_", "A", "a b", "`", "{", "a;b"}) {
            due.is("7: no letters: " + wrong, Due.word(x, wrong), -1);
            due.is("7: the tape goes", x.end(1), false);
        }
        due.is("7: the same once more", Due.word(x, "a"), 3);
        due.is("7: the tape goes with it", x.end(1), false);
        for (int n = 4; n <= 12; n++) {
            due.is("7: up to 12", Due.word(x, "z"), n);
        }
        due.is("7: no more", Due.word(x, "z"), -1);
        due.is("7: then it goes, too", x.end(1), false);
    }

    private static void lay() {
        TornReeds x = new TornReeds();
        due.is("8: no such BIT", x.lay(0, 0, 0), false);
        Due.bit(x, 0, "ab;c");
        due.is("8: no such number", x.lay(10, 0, 0), false);
        due.is("8: below 0", x.lay(-1, 0, 0), false);
        due.is("8: above THE SHEET", x.lay(0, -1, 0), false);
        due.is("8: left of it", x.lay(0, 0, -1), false);
        due.is("8: below it", x.lay(0, 15, 0), false);
        due.is("8: right of it", x.lay(0, 0, 31), false);
        for (int far : new int[] {LEAST, GREATEST, GREATEST - 1, LEAST + 9}) {
            due.is("8: far off in rows", x.lay(0, far, 0), false);
            due.is("8: far off in columns", x.lay(0, 0, far), false);
        }
        due.is("8: the last place", x.lay(0, 14, 30), true);
        due.is("8: it lies already", x.lay(0, 0, 0), false);
        due.is("8: and stays there", x.place(0, 0), 14);
        Due.bit(x, 1, "d");
        due.is("8: where another one has a CELL", x.lay(1, 15, 30), false);
        due.is("8: where it has none", x.lay(1, 15, 31), true);
        Due.bit(x, 2, ";;;;_________e");
        due.is("8: what is _ may be without", x.lay(2, -4, -9), true);
        due.is("8: its only CELL", x.sheet(0, 0), 'e');
        Due.bit(x, 3, "f___g");
        due.is("8: a hole in a BIT", x.lay(3, 5, 5), true);
        Due.bit(x, 4, "h");
        due.is("8: may be filled", x.lay(4, 5, 7), true);
    }

    private static void layByFibres() {
        TornReeds x = new TornReeds();
        Due.bit(x, 0, "a_;_b");
        x.fibre(0, true, 0, 5);
        x.fibre(0, false, 1, 6);
        x.fibre(0, true, 2, 7);
        x.fibre(0, false, 2, 7);
        due.is("8: the first one", x.lay(0, 4, 4), true);
        Due.bit(x, 1, "c");
        x.fibre(1, true, 0, 4);
        x.fibre(1, false, 0, 4);
        due.is("8: a QUARREL in a ROW, however far", x.lay(1, 4, 31), false);
        due.is("8: a QUARREL in a column", x.lay(1, 15, 5), false);
        due.is("8: none in another ROW and column", x.lay(1, 5, 6), true);
        x.take(1);
        due.is("8: none where that FIBRE is not told", x.lay(1, 5, 4), true);
        x.take(1);
        due.is("8: none where that BIT has FIBRES but no CELL", x.lay(1, 6, 6), true);
        x.take(1);
        x.fibre(1, true, 0, 5);
        due.is("8: none if they are alike", x.lay(1, 4, 31), true);
        x.take(1);
        due.is("8: alike in a ROW, unlike in the column", x.lay(1, 4, 5), false);
        x.fibre(1, true, 0, 4);
        x.fibre(1, false, 0, 6);
        due.is("8: alike in a column, unlike in the ROW", x.lay(1, 4, 5), false);
        x.fibre(1, true, 0, 5);
        due.is("8: alike in both", x.lay(1, 4, 5), true);
        due.is("15: in both, and at two sides", x.worth(), 6);
        x.take(1);
        x.fibre(1, true, 0, 0);
        x.fibre(1, true, 1, 9);
        due.is("8: nor by a FIBRE of its own without CELL", x.lay(1, 3, 0), true);
        due.is("8: alike in nothing", x.worth(), 0);
    }

    private static void layByWords() {
        TornReeds x = new TornReeds();
        Due.word(x, "papyrus");
        Due.word(x, "reed");
        Due.bit(x, 0, "yru");
        due.is("8: a part of a word", x.lay(0, 0, 0), true);
        Due.bit(x, 1, "p.");
        due.is("8: a RUN of two BITS that is no word", x.lay(1, 0, 3), false);
        due.is("8: side by side in a ROW alone", x.lay(1, 1, 3), true);
        Due.bit(x, 2, "pap");
        due.is("8: THE SHEET's end is in the way", x.lay(2, 0, -3), false);
        x.take(0);
        due.is("8: farther on", x.lay(0, 0, 10), true);
        due.is("8: ahead", x.lay(2, 0, 7), true);
        Due.bit(x, 3, ",yrus");
        due.is("8: CLOSED ahead it is none's beginning", x.lay(3, 5, 0), false);
        Due.bit(x, 3, ",papy");
        due.is("8: CLOSED ahead it is one's beginning", x.lay(3, 5, 0), true);
        Due.bit(x, 4, "papy,");
        due.is("8: CLOSED behind it is none's end", x.lay(4, 7, 0), false);
        Due.bit(x, 4, "rus,");
        due.is("8: CLOSED behind it is one's end", x.lay(4, 7, 0), true);
        Due.bit(x, 5, ",");
        due.is("8: a blank may CLOSE no RUN of another one wrongly", x.lay(5, 5, 5), false);
        due.is("8: nor ahead of one", x.lay(5, 0, 6), true);
        due.is("8: for this one began so", x.words(0, 7), 1);
        Due.bit(x, 6, ",reed,");
        due.is("8: a whole word", x.lay(6, 9, 26), true);
        Due.bit(x, 7, ",ree,");
        due.is("8: no whole word", x.lay(7, 10, 0), false);
        Due.bit(x, 8, "edpa");
        due.is("8: no word goes on into the next one", x.lay(8, 11, 0), false);
        Due.bit(x, 8, "ree__q");
        due.is("8: each of a BIT's RUNS", x.lay(8, 11, 0), false);
        Due.bit(x, 8, "ree;;_q");
        due.is("8: in each of its ROWS", x.lay(8, 11, 0), false);
        Due.bit(x, 9, "papyrusr");
        due.is("8: nor the other way", x.lay(9, 12, 0), false);
        wordsAtTheirEnds();
        oldRunsCount();
    }

    private static void wordsAtTheirEnds() {
        TornReeds x = new TornReeds();
        Due.word(x, "ab");
        Due.bit(x, 0, "ab.");
        due.is("8: nothing behind a word's last letter", x.lay(0, 0, 0), false);
        Due.bit(x, 0, "z");
        due.is("8: z is a letter like others", x.lay(0, 0, 0), false);
        due.is("8: by THE SHEET's end, too", x.lay(0, 0, 31), false);
        Due.bit(x, 0, "b");
        Due.bit(x, 1, ",");
        due.is("8: an end", x.lay(0, 0, 31), true);
        due.is("8: that must not be CLOSED ahead", x.lay(1, 0, 30), false);
        due.is("8: but behind nothing", x.lay(1, 0, 29), true);
        x.take(0);
        x.take(1);
        Due.bit(x, 0, "a");
        due.is("8: a beginning", x.lay(0, 0, 0), true);
        due.is("8: that must not be CLOSED behind", x.lay(1, 0, 1), false);
        due.is("8: but ahead of nothing", x.lay(1, 0, 2), true);
    }

    private static void oldRunsCount() {
        TornReeds x = new TornReeds();
        Due.bit(x, 0, "q");
        Due.bit(x, 1, "a");
        Due.bit(x, 2, ",");
        x.lay(0, 0, 0);
        Due.word(x, "ab");
        due.is("7: BITS that lie stay", x.place(0, 0), 0);
        due.is("8: but each RUN must be able", x.lay(1, 8, 8), false);
        due.is("8: whatever is laid", x.lay(2, 8, 8), false);
        due.is("17: so there is no JOIN", x.joins(1), 0);
        due.is("16: of one", x.join(1, -1), -2);
        due.is("16: of two", x.join(1, 2), -2);
        x.take(0);
        due.is("8: without it all may", x.lay(1, 8, 8), true);
        TornReeds y = new TornReeds();
        for (int n = 0; n < 12; n++) {
            Due.word(y, n == 5 ? "abcdefghij" : n == 11 ? "jkl" : "xyz");
        }
        Due.bit(y, 0, "hij");
        due.is("8: of the sixth word", y.lay(0, 0, 0), true);
        due.is("13: it alone", y.words(0, 1), 1);
        due.is("14: it alone", y.read(0, 1, 0), 5);
        Due.bit(y, 1, "jk");
        due.is("8: of the last word", y.lay(1, 2, 0), true);
        due.is("14: the last word", y.read(2, 0, 0), 11);
        Due.bit(y, 2, "ijx");
        due.is("8: not of two words", y.lay(2, 4, 0), false);
    }

    private static void take() {
        TornReeds x = new TornReeds();
        due.is("9: no such BIT", x.take(0), false);
        Due.bit(x, 0, "a");
        Due.bit(x, 1, "b");
        Due.bit(x, 2, "c");
        due.is("9: it does not lie", x.take(0), false);
        for (int i : new int[] {-1, 10, LEAST, GREATEST}) {
            due.is("9: no such number", x.take(i), false);
        }
        x.lay(0, 0, 0);
        x.lay(1, 0, 1);
        x.lay(2, 0, 2);
        due.is("9: it lay", x.take(1), true);
        due.is("9: no more", x.take(1), false);
        due.is("9: nothing is there", x.sheet(0, 1), '_');
        due.is("9: those that stay need not TOUCH", x.place(2, 1), 2);
        due.is("9: worth nothing then", x.worth(), 0);
        due.is("9: it can be laid again", x.lay(1, 0, 1), true);
    }

    private static void place() {
        TornReeds x = new TornReeds();
        Due.bit(x, 4, "_;_a");
        due.is("10: it does not lie", x.place(4, 0), -1);
        x.lay(4, 7, 20);
        due.is("10: its row", x.place(4, 0), 7);
        due.is("10: its column", x.place(4, 1), 20);
        for (int i : new int[] {-1, 2, LEAST, GREATEST}) {
            due.is("10: others", x.place(4, i), -1);
        }
        for (int i : new int[] {-1, 3, 10, LEAST, GREATEST}) {
            due.is("10: no such BIT", x.place(i, 0), -1);
        }
        x.take(4);
        due.is("10: no more", x.place(4, 0), -1);
        x.lay(4, -1, -1);
        due.is("10: a row below 0", x.place(4, 0), -1);
        due.is("10: the CELL", x.sheet(0, 0), 'a');
    }

    private static void sheetAndWhose() {
        TornReeds x = new TornReeds();
        Due.bit(x, 3, "a.;,_z");
        x.lay(3, 14, 29);
        due.is("11: a letter", x.sheet(14, 29), 'a');
        due.is("11: an unread one", x.sheet(14, 30), '.');
        due.is("11: a blank", x.sheet(15, 29), ',');
        due.is("11: nothing", x.sheet(15, 30), '_');
        due.is("11: the last CELL", x.sheet(15, 31), 'z');
        due.is("12: a letter's", x.whose(14, 29), 3);
        due.is("12: a blank's", x.whose(15, 29), 3);
        due.is("12: nothing's", x.whose(15, 30), -1);
        due.is("12: the last CELL's", x.whose(15, 31), 3);
        for (int i : new int[] {-1, 32, LEAST, GREATEST}) {
            due.is("11: no such row", x.sheet(i, 0), -1);
            due.is("11: no such column", x.sheet(0, i), -1);
            due.is("12: no such row", x.whose(i, 0), -1);
            due.is("12: no such column", x.whose(0, i), -1);
        }
        due.is("11: no row 16", x.sheet(16, 0), -1);
        due.is("12: no row 16", x.whose(16, 0), -1);
        Due.bit(x, 0, "b");
        x.lay(0, 15, 30);
        due.is("12: in another one's gap", x.whose(15, 30), 0);
    }

    private static void words() {
        TornReeds x = new TornReeds();
        Due.bit(x, 0, "a.,_b");
        x.lay(0, 3, 4);
        due.is("13: an empty LIST", x.words(3, 4), 0);
        Due.word(x, "cab");
        Due.word(x, "ba");
        Due.word(x, "aa");
        Due.word(x, "b");
        due.is("13: it must end there", x.words(3, 5), 2);
        due.is("13: from any of its CELLS", x.words(3, 4), 2);
        due.is("13: a blank", x.words(3, 6), -1);
        due.is("13: nothing", x.words(3, 7), -1);
        due.is("13: OPEN at both ends", x.words(3, 8), 3);
        due.is("13: no CELL at all", x.words(0, 0), -1);
        for (int i : new int[] {-1, 32, LEAST, GREATEST}) {
            due.is("13: no such row", x.words(i, 4), -1);
            due.is("13: no such column", x.words(3, i), -1);
        }
        Due.bit(x, 1, "c");
        x.lay(1, 3, 3);
        due.is("13: a RUN over two BITS", x.words(3, 5), 1);
        Due.word(x, "xaby");
        due.is("13: OPEN ahead alone", x.words(3, 3), 1);
        Due.bit(x, 2, ",b");
        x.lay(2, 0, 0);
        due.is("13: CLOSED ahead alone", x.words(0, 1), 2);
    }

    private static void read() {
        TornReeds x = new TornReeds();
        Due.bit(x, 0, ",.");
        x.lay(0, 0, 30);
        due.is("14: an empty LIST", x.read(0, 31, 0), -1);
        Due.word(x, "ab");
        Due.word(x, "c");
        Due.word(x, "ab");
        due.is("14: the first", x.read(0, 31, 0), 0);
        due.is("14: the second", x.read(0, 31, 1), 1);
        due.is("14: the same word again", x.read(0, 31, 2), 2);
        due.is("14: no more", x.read(0, 31, 3), -1);
        due.is("14: a blank", x.read(0, 30, 0), -1);
        due.is("14: nothing", x.read(0, 29, 0), -1);
        for (int i : new int[] {-1, 32, LEAST, GREATEST}) {
            due.is("14: no such row", x.read(i, 31, 0), -1);
            due.is("14: no such column", x.read(0, i, 0), -1);
            due.is("14: no such k", x.read(0, 31, i), -1);
        }
        Due.bit(x, 1, ".,");
        x.lay(1, 5, 5);
        Due.bit(x, 2, ",");
        x.lay(2, 5, 4);
        due.is("14: CLOSED at both ends", x.read(5, 5, 0), 1);
        due.is("14: that alone", x.read(5, 5, 1), -1);
    }

    private static void worth() {
        TornReeds x = new TornReeds();
        due.is("15: nothing lies", x.worth(), 0);
        Due.bit(x, 0, "ab;cd");
        Due.bit(x, 1, "ef;gh");
        Due.bit(x, 2, ",");
        x.lay(0, 0, 0);
        due.is("15: one alone", x.worth(), 0);
        x.lay(1, 0, 2);
        due.is("15: CELLS side by side", x.worth(), 2);
        x.take(1);
        x.lay(1, 2, 1);
        due.is("15: one below the other", x.worth(), 1);
        x.lay(2, 1, 2);
        due.is("15: a blank, too", x.worth(), 3);
        x.take(1);
        x.take(2);
        x.lay(2, 2, 2);
        due.is("15: not across corners", x.worth(), 0);
        TornReeds y = new TornReeds();
        for (int b = 0; b < 4; b++) {
            Due.bit(y, b, "a");
            y.fibre(b, true, 0, 9);
            y.fibre(b, false, 0, b < 2 ? 3 : 0);
        }
        y.lay(0, 0, 0);
        y.lay(1, 5, 0);
        due.is("15: FIBRES of a column", y.worth(), 2);
        y.take(1);
        y.lay(1, 0, 9);
        due.is("15: FIBRES of a ROW", y.worth(), 2);
        y.lay(2, 0, 20);
        due.is("15: of each pair", y.worth(), 6);
        y.lay(3, 0, 21);
        due.is("15: and side by side", y.worth(), 13);
        Due.bit(x, 0, "a_a");
        Due.bit(x, 1, "b");
        x.take(2);
        x.lay(0, 8, 8);
        x.lay(1, 8, 9);
        due.is("15: at two sides", x.worth(), 2);
        TornReeds z = new TornReeds();
        Due.bit(z, 0, "a;b");
        Due.bit(z, 1, "c;d");
        z.fibre(0, true, 0, 1);
        z.fibre(0, true, 1, 2);
        z.fibre(1, true, 0, 1);
        z.fibre(1, true, 1, 2);
        z.lay(0, 3, 3);
        z.lay(1, 3, 9);
        due.is("15: of each ROW", z.worth(), 4);
    }

    private static void joinOfOne() {
        TornReeds x = new TornReeds();
        Due.bit(x, 0, "a");
        Due.bit(x, 1, "b");
        x.lay(0, 0, 0);
        due.is("16: at THE SHEET's corner", x.join(1, -1), 1);
        due.is("16: the least row", x.place(1, 0), 0);
        due.is("16: then column", x.place(1, 1), 1);
        x.take(1);
        x.take(0);
        x.lay(0, 15, 31);
        due.is("16: at the other corner", x.join(1, -1), 1);
        due.is("16: the row above", x.place(1, 0), 14);
        due.is("16: its column", x.place(1, 1), 31);
        x.take(1);
        Due.bit(x, 2, "abc;d_e;fgh");
        due.is("16: of greatest WORTH", x.lay(2, 5, 5), true);
        due.is("16: at four sides", x.join(1, -1), 4);
        due.is("16: in the midst", x.place(1, 0), 6);
        due.is("16: in the midst", x.place(1, 1), 6);
        TornReeds y = new TornReeds();
        Due.bit(y, 0, "a_____b");
        y.fibre(0, false, 6, 8);
        y.lay(0, 5, 5);
        Due.bit(y, 1, "c");
        y.fibre(1, false, 0, 8);
        due.is("16: FIBRES count more", y.join(1, -1), 3);
        due.is("16: by the other letter", y.place(1, 1), 11);
        y.take(1);
        y.take(0);
        y.fibre(0, true, 0, 7);
        y.lay(0, 5, 5);
        y.fibre(1, true, 0, 6);
        y.fibre(1, false, 0, 9);
        due.is("16: no QUARREL", y.join(1, -1), 1);
        due.is("16: above the first letter", y.place(1, 0), 4);
        due.is("16: above the first letter", y.place(1, 1), 5);
        TornReeds z = new TornReeds();
        Due.bit(z, 0, "a");
        Due.bit(z, 1, ";;;;_________b");
        z.lay(0, 4, 9);
        due.is("16: a place without THE SHEET", z.join(1, -1), 1);
        due.is("16: its row", z.place(1, 0), -1);
        due.is("16: its column", z.place(1, 1), 0);
        z.take(1);
        z.take(0);
        z.lay(0, 0, 1);
        due.is("16: as far without as can be", z.join(1, -1), 1);
        due.is("16: its row", z.place(1, 0), -4);
        due.is("16: its column", z.place(1, 1), -9);
        due.is("16: its CELL", z.whose(0, 0), 1);
    }

    private static void joinOfTwo() {
        TornReeds x = new TornReeds();
        Due.bit(x, 0, "a");
        Due.bit(x, 3, "b");
        Due.bit(x, 7, "c");
        x.lay(0, 5, 5);
        due.is("16: two in a row", x.join(7, 3), 2);
        due.is("16: the lesser number has the least place", x.place(3, 0), 3);
        due.is("16: above the other one", x.place(3, 1), 5);
        due.is("16: which TOUCHES what lay", x.place(7, 0), 4);
        due.is("16: in the same column", x.place(7, 1), 5);
        x.take(3);
        x.take(7);
        due.is("16: in any order", x.join(3, 7), 2);
        due.is("16: the same place", x.place(3, 0), 3);
        x.take(3);
        x.take(7);
        x.fibre(3, true, 0, 9);
        x.fibre(7, true, 0, 9);
        due.is("16: FIBRES of the two, side by side", x.join(3, 7), 4);
        due.is("16: in one ROW", x.place(3, 0), 4);
        due.is("16: the other one, too", x.place(7, 0), 4);
        due.is("16: the lesser number ahead", x.place(3, 1), 4);
        due.is("16: the other one above what lay", x.place(7, 1), 5);
        x.take(3);
        x.take(7);
        x.fibre(3, true, 0, 8);
        x.fibre(3, false, 0, 8);
        x.fibre(7, false, 0, 9);
        due.is("16: that QUARREL in a ROW and a column", x.join(3, 7), 2);
        due.is("16: so each by itself", x.place(3, 0), 4);
        due.is("16: so each by itself", x.place(3, 1), 5);
        due.is("16: the first place for the other", x.place(7, 0), 5);
        due.is("16: the first place for the other", x.place(7, 1), 4);
        TornReeds y = new TornReeds();
        Due.bit(y, 0, "a");
        Due.bit(y, 1, "bc;d_");
        Due.bit(y, 2, "_e;fg");
        y.lay(0, 10, 10);
        due.is("16: two that fit each other", y.join(1, 2), 4);
        due.is("16: as three rows of two", y.place(2, 0) - y.place(1, 0), 1);
        due.is("16: above what lay", y.place(1, 0), 7);
        due.is("16: the last of them by its right CELL", y.place(1, 1), 9);
        due.is("16: the other one, too", y.place(2, 1), 9);
    }

    private static void joinOfTwoByWords() {
        TornReeds x = new TornReeds();
        Due.word(x, "reeds");
        Due.bit(x, 0, "r");
        Due.bit(x, 1, "s");
        Due.bit(x, 2, "eed");
        for (int b = 0; b < 3; b++) {
            x.fibre(b, true, 0, 50);
        }
        x.lay(0, 4, 4);
        due.is("16: a word of three", x.join(1, 2), 8);
        due.is("16: its end", x.place(1, 1), 8);
        due.is("16: its midst", x.place(2, 1), 5);
        x.take(1);
        x.take(2);
        Due.bit(x, 1, ",s");
        due.is("16: what is CLOSED ahead is none", x.join(1, 2), -2);
        due.is("16: none was laid", x.place(1, 0), -1);
        due.is("16: nor the other", x.place(2, 0), -1);
        due.is("16: nothing stays written", x.sheet(4, 5), '_');
        due.is("16: THE SHEET is as it was", x.worth(), 0);
        Due.bit(x, 1, "s,");
        x.fibre(1, true, 0, 50);
        due.is("16: CLOSED behind it may be", x.join(2, 1), 8);
        due.is("16: even ahead, as its blank parts the words", x.place(1, 1), 2);
        due.is("16: the other one where it was", x.place(2, 1), 5);
        TornReeds y = new TornReeds();
        Due.word(y, "ab");
        Due.bit(y, 0, ",");
        Due.bit(y, 1, "a,");
        Due.bit(y, 2, "b");
        y.lay(0, 0, 0);
        due.is("16: a RUN that one breaks is not mended by the other", y.join(1, 2), -2);
    }

    /** BITS as high and as wide as can be, that QUARREL unless one is above or ahead of the other. */
    private static void joinOfTwoLargeOnes() {
        TornReeds x = new TornReeds();
        Due.bit(x, 0, "a");
        Due.bit(x, 1, "b;b;b;b;b");
        Due.bit(x, 2, "c;c;c;c;c");
        TornReeds y = new TornReeds();
        Due.bit(y, 0, "a");
        Due.bit(y, 1, "bbbbbbbbbb");
        Due.bit(y, 2, "cccccccccc");
        for (int b = 0; b < 3; b++) {
            x.fibre(b, false, 0, 7);
            y.fibre(b, true, 0, 7);
            for (int i = 0; i < 10; i++) {
                x.fibre(b, true, i, 1 + b);
                y.fibre(b, false, i, 1 + b);
            }
        }
        x.lay(0, 15, 20);
        due.is("16: one above the other", x.join(1, 2), 8);
        due.is("16: the lesser number on top", x.place(1, 0), 5);
        due.is("16: the other one below it", x.place(2, 0), 10);
        x.take(1);
        x.take(2);
        x.take(0);
        x.lay(0, 0, 20);
        due.is("16: one below the other", x.join(1, 2), 8);
        due.is("16: the lesser number by what lay", x.place(1, 0), 1);
        due.is("16: the other one farther on", x.place(2, 0), 6);
        y.lay(0, 15, 31);
        due.is("16: one ahead of the other", y.join(1, 2), 8);
        due.is("16: the lesser number first", y.place(1, 1), 11);
        due.is("16: the other one behind it", y.place(2, 1), 21);
        y.take(1);
        y.take(2);
        y.take(0);
        y.lay(0, 15, 0);
        due.is("16: one behind the other", y.join(1, 2), 8);
        due.is("16: the lesser number by what lay", y.place(1, 1), 1);
        due.is("16: the other one farther on", y.place(2, 1), 11);
    }

    /** The greater number can reach what lay by the lesser one alone, which is below it or behind it. */
    private static void joinOfTwoTurnedOnes() {
        TornReeds x = new TornReeds();
        Due.bit(x, 0, ".");
        Due.bit(x, 1, ".;.;.;.;.");
        Due.bit(x, 2, ".;.;.;.;.");
        TornReeds y = new TornReeds();
        Due.bit(y, 0, ".");
        Due.bit(y, 1, "..........");
        Due.bit(y, 2, "..........");
        x.fibre(0, true, 0, 9);
        y.fibre(0, false, 0, 9);
        for (int i = 0; i < 10; i++) {
            x.fibre(1, true, i, 9);
            x.fibre(2, true, i, 2);
            y.fibre(1, false, i, 9);
            y.fibre(2, false, i, 2);
        }
        Due.bit(x, 3, ".");
        Due.bit(y, 3, ".");
        x.lay(0, 14, 0);
        x.lay(3, 15, 20);
        due.is("16: the greater number on top", x.join(1, 2), 4);
        due.is("16: the lesser one's row", x.place(1, 0), 10);
        due.is("16: the lesser one's column", x.place(1, 1), 1);
        due.is("16: the greater one's row", x.place(2, 0), 5);
        due.is("16: the greater one's column", x.place(2, 1), 1);
        y.lay(0, 0, 30);
        y.lay(3, 10, 31);
        due.is("16: the greater number ahead", y.join(2, 1), 4);
        due.is("16: the lesser one's row", y.place(1, 0), 1);
        due.is("16: the lesser one's column", y.place(1, 1), 21);
        due.is("16: the greater one's row", y.place(2, 0), 1);
        due.is("16: the greater one's column", y.place(2, 1), 11);
    }

    /** Two that are joined far from each other, where no ROW and no column has both. */
    private static void joinOfTwoFarApart() {
        TornReeds x = new TornReeds();
        for (int b = 0; b < 4; b++) {
            Due.bit(x, b, "a");
            x.fibre(b, true, 0, 1 + b % 2);
        }
        Due.word(x, "aa");
        x.lay(0, 0, 0);
        x.lay(1, 15, 31);
        due.is("16: each in the ROW of its FIBRE", x.join(2, 3), 6);
        due.is("16: the lesser number's row", x.place(2, 0), 0);
        due.is("16: the lesser number's column", x.place(2, 1), 1);
        due.is("16: the other one's row", x.place(3, 0), 15);
        due.is("16: the other one's column", x.place(3, 1), 30);
    }

    /** The lesser number can't TOUCH what lay; the other one does so at the first of all places. */
    private static void joinOfTwoInTheCorner() {
        TornReeds x = new TornReeds();
        for (int b = 0; b < 3; b++) {
            Due.bit(x, b, "a");
        }
        x.fibre(0, true, 0, 6);
        x.fibre(0, false, 0, 6);
        x.fibre(1, true, 0, 5);
        x.fibre(1, false, 0, 5);
        x.lay(0, 0, 1);
        due.is("16: the lesser number alone has no place", x.joins(1), 0);
        due.is("16: with the other one it has", x.join(1, 2), 2);
        due.is("16: its row", x.place(1, 0), 1);
        due.is("16: its column", x.place(1, 1), 0);
        due.is("16: the other one's row", x.place(2, 0), 0);
        due.is("16: the other one's column", x.place(2, 1), 0);
    }

    private static void joinOfTwoByShiftedFibres() {
        TornReeds x = new TornReeds();
        Due.bit(x, 0, "a");
        Due.bit(x, 1, "b;b");
        Due.bit(x, 2, "c;c");
        x.fibre(1, true, 1, 4);
        x.fibre(2, true, 0, 4);
        x.fibre(2, true, 1, 5);
        x.lay(0, 5, 5);
        due.is("16: by FIBRES of unlike ROWS", x.join(1, 2), 5);
        due.is("16: the lesser number above what lay", x.place(1, 0), 3);
        due.is("16: the lesser number above what lay", x.place(1, 1), 5);
        due.is("16: the other one ahead of it", x.place(2, 0), 4);
        due.is("16: the other one ahead of it", x.place(2, 1), 4);
        TornReeds y = new TornReeds();
        Due.bit(y, 0, "a");
        Due.bit(y, 1, "bb");
        Due.bit(y, 2, "cc");
        y.fibre(1, false, 1, 4);
        y.fibre(2, false, 0, 4);
        y.fibre(2, false, 1, 5);
        y.lay(0, 5, 5);
        due.is("16: by FIBRES of unlike columns", y.join(1, 2), 5);
        due.is("16: the lesser number above what lay", y.place(1, 0), 4);
        due.is("16: the lesser number above what lay", y.place(1, 1), 5);
        due.is("16: the other one behind it", y.place(2, 0), 5);
        due.is("16: the other one behind it", y.place(2, 1), 6);
    }

    /** FIBRES that are alike are worth nothing where a BIT TOUCHES none. */
    private static void joinOfTwoThatTouch() {
        TornReeds x = new TornReeds();
        Due.bit(x, 0, "_______,;,;_______,");
        for (int r = 0; r < 3; r++) {
            x.fibre(0, true, r, 8);
        }
        x.fibre(0, false, 0, 9);
        x.lay(0, 4, 5);
        Due.bit(x, 1, ",");
        Due.bit(x, 2, ",");
        x.fibre(2, true, 0, 7);
        x.fibre(2, false, 0, 9);
        due.is("16: not in a column where it TOUCHES none", x.join(2, -1), 1);
        due.is("16: above the farther CELL", x.place(2, 0), 3);
        due.is("16: above the farther CELL", x.place(2, 1), 12);
        x.take(2);
        due.is("16: but there, if the other one is between", x.join(1, 2), 4);
        due.is("16: which is above the nearer CELL", x.place(1, 0), 4);
        due.is("16: both in that column", x.place(2, 1), 5);
        x.take(1);
        x.take(2);
        x.fibre(1, true, 0, 6);
        x.fibre(1, false, 0, 6);
        due.is("16: the other one has a place", x.joins(1), 2);
        due.is("16: so has this one", x.joins(2), 2);
        due.is("16: but they QUARREL there", x.join(1, 2), -2);
        TornReeds y = new TornReeds();
        Due.bit(y, 0, "aaa");
        Due.bit(y, 1, "b");
        Due.bit(y, 2, "c");
        y.fibre(1, true, 0, 1);
        y.fibre(2, true, 0, 2);
        y.fibre(1, false, 0, 3);
        y.fibre(2, false, 0, 3);
        y.lay(0, 5, 5);
        due.is("16: alike in the column, not in one place", y.join(1, 2), 4);
        due.is("16: the lesser number above both", y.place(1, 0), 3);
        due.is("16: the other one between", y.place(2, 0), 4);
        y.take(1);
        y.take(2);
        y.fibre(2, true, 0, 1);
        y.fibre(2, false, 0, 4);
        due.is("16: alike in the ROW, not in the column", y.join(1, 2), 5);
        due.is("16: above what lay", y.place(1, 0), 4);
        due.is("16: above its first CELL", y.place(1, 1), 5);
        due.is("16: beside the lesser number", y.place(2, 1), 6);
    }

    private static void joinRefused() {
        TornReeds x = new TornReeds();
        Due.bit(x, 0, "a");
        Due.bit(x, 1, "b");
        Due.bit(x, 2, "c");
        due.is("16: nothing lies", x.join(1, -1), -1);
        due.is("16: nothing lies, of two", x.join(1, 2), -1);
        x.lay(0, 5, 5);
        due.is("16: one lies", x.join(0, -1), -1);
        due.is("16: the first lies", x.join(0, 1), -1);
        due.is("16: the second lies", x.join(1, 0), -1);
        due.is("16: a BIT with itself", x.join(1, 1), -1);
        for (int i : new int[] {-2, 3, 10, LEAST, GREATEST}) {
            due.is("16: no such BIT", x.join(i, -1), -1);
            due.is("16: no such first one", x.join(i, 1), -1);
            due.is("16: no such second one", x.join(1, i), -1);
        }
        due.is("16: NONE ahead is none", x.join(-1, 1), -1);
        due.is("16: none at all", x.join(-1, -1), -1);
        due.is("16: none was laid", x.place(1, 0), -1);
        x.fibre(1, false, 0, 1);
        x.fibre(1, true, 0, 1);
        x.take(0);
        x.fibre(0, false, 0, 2);
        x.fibre(0, true, 0, 2);
        x.lay(0, 5, 5);
        due.is("16: that QUARRELS wherever it TOUCHES", x.join(1, -1), -2);
        due.is("16: it was not laid", x.place(1, 0), -1);
        due.is("16: but by another one", x.join(1, 2), 2);
    }

    private static void joins() {
        TornReeds x = new TornReeds();
        Due.bit(x, 0, "ab");
        Due.bit(x, 1, "c");
        due.is("17: nothing lies", x.joins(1), -1);
        x.lay(0, 5, 5);
        due.is("17: all round", x.joins(1), 6);
        due.is("17: one that lies", x.joins(0), -1);
        for (int i : new int[] {-1, 2, 10, LEAST, GREATEST}) {
            due.is("17: no such BIT", x.joins(i), -1);
        }
        due.is("17: it is not laid", x.place(1, 0), -1);
        x.take(0);
        x.lay(0, 15, 30);
        due.is("17: in a corner", x.joins(1), 3);
        x.fibre(1, true, 0, 3);
        x.fibre(1, false, 0, 3);
        due.is("17: of any WORTH", x.joins(1), 3);
        x.take(0);
        x.fibre(0, true, 0, 4);
        x.lay(0, 5, 5);
        due.is("17: without a QUARREL", x.joins(1), 4);
        Due.word(x, "cab");
        Due.bit(x, 1, "c");
        due.is("17: as words allow", x.joins(1), 5);
        x.take(0);
        due.is("17: nothing lies any more", x.joins(1), -1);
    }

    private static void roll() {
        TornReeds x = new TornReeds();
        due.is("18: two, then it is below 1", x.roll(1, 1), 2);
        due.is("18: forty at most", x.roll(1, 0), 40);
        due.is("18: forty by steps", x.roll(1000, 25), 40);
        due.is("18: the last gap is 25", x.roll(1000, 26), 40);
        due.is("18: less than 40", x.roll(1000, 27), 39);
        due.is("18: the greatest numbers", x.roll(1000, 100), 11);
        due.is("18: a gap of 1 is one", x.roll(10, 3), 5);
        due.is("18: a gap of 0 is none", x.roll(9, 3), 4);
        for (int i : new int[] {0, -1, 1001, LEAST, GREATEST}) {
            due.is("18: no such GAP", x.roll(i, 0), -1);
        }
        for (int i : new int[] {-1, 101, LEAST, GREATEST}) {
            due.is("18: no such STEP", x.roll(5, i), -1);
        }
        Due.bit(x, 0, "a");
        x.hole(0, 0);
        due.is("18: refused, it stays", x.stood(0), 4);
        due.is("18: the second at GAP", x.standing(0, 1), 9);
        due.is("18: the third", x.standing(0, 2), 15);
        due.is("18: the fourth", x.standing(0, 3), 18);
    }

    private static void hole() {
        TornReeds x = new TornReeds();
        due.is("19: no such BIT", x.hole(0, 0), -1);
        Due.bit(x, 0, "a");
        for (int i : new int[] {-1, 2001, LEAST, GREATEST}) {
            due.is("19: no such distance", x.hole(0, i), -1);
            due.is("19: no such number", x.hole(i, 0), -1);
        }
        due.is("19: the first", x.hole(0, 0), 1);
        due.is("19: not farther on", x.hole(0, 0), -1);
        due.is("19: farther on", x.hole(0, 5), 2);
        due.is("19: not so far", x.hole(0, 4), -1);
        due.is("19: by one", x.hole(0, 6), 3);
        x.lay(0, 0, 0);
        due.is("19: though it lies", x.hole(0, 7), 4);
        due.is("19: the fifth", x.hole(0, 8), 5);
        due.is("19: the greatest distance", x.hole(0, 2000), 6);
        Due.bit(x, 1, "b");
        for (int n = 1; n <= 6; n++) {
            due.is("19: of another BIT", x.hole(1, n), n);
        }
        due.is("19: no seventh", x.hole(1, 7), -1);
    }

    private static void stood() {
        TornReeds x = new TornReeds();
        Due.bit(x, 0, "a");
        due.is("20: without a hole", x.stood(0), -1);
        x.hole(0, 3);
        due.is("20: without a ROLL", x.stood(0), -1);
        // 0 10 16 18
        x.roll(10, 4);
        due.is("20: but not where the HOLE ahead is seen, too", x.stood(0), 2);
        x.hole(0, 9);
        due.is("20: two of them", x.stood(0), 1);
        x.hole(0, 11);
        due.is("20: three", x.stood(0), 1);
        x.hole(0, 12);
        due.is("20: no fourth", x.stood(0), 0);
        for (int i : new int[] {-1, 1, 10, LEAST, GREATEST}) {
            due.is("20: no such BIT", x.stood(i), -1);
        }
        Due.bit(x, 1, "b");
        due.is("20: with a ROLL, without a hole", x.stood(1), -1);
        x.hole(1, 0);
        x.hole(1, 16);
        due.is("20: no HOLE between that it has not", x.stood(1), 0);
        Due.bit(x, 2, "c");
        x.hole(2, 11);
        due.is("20: one that is seen alone", x.stood(2), 0);
        Due.bit(x, 3, "d");
        x.hole(3, 9);
        due.is("20: the place is 0 or more", x.stood(3), 1);
        Due.bit(x, 4, "e");
        x.hole(4, 0);
        x.hole(4, 10);
        due.is("20: from the first HOLE on", x.stood(4), 1);
        due.is("20: from the first HOLE on", x.standing(4, 0), 0);
        Due.bit(x, 5, "f");
        x.hole(5, 10);
        due.is("20: a HOLE at the place itself is seen, too", x.stood(5), 0);
        Due.bit(x, 5, "f");
        due.is("21: with a ROLL, without a hole", x.standing(5, 0), -1);
    }

    private static void standing() {
        TornReeds x = new TornReeds();
        Due.bit(x, 0, "a");
        due.is("21: without a hole", x.standing(0, 0), -1);
        x.hole(0, 2);
        due.is("21: without a ROLL", x.standing(0, 0), -1);
        x.roll(5, 0);
        due.is("21: how many", x.stood(0), 39);
        for (int k = 0; k < 39; k++) {
            due.is("21: the least first", x.standing(0, k), 5 * k + 3);
        }
        for (int i : new int[] {-1, 39, LEAST, GREATEST}) {
            due.is("21: no such k", x.standing(0, i), -1);
        }
        for (int i : new int[] {-1, 1, 10, LEAST, GREATEST}) {
            due.is("21: no such BIT", x.standing(i, 0), -1);
        }
        x.hole(0, 7);
        due.is("21: of two holes", x.standing(0, 37), 188);
        due.is("21: one less", x.standing(0, 38), -1);
    }

    private static void known() {
        TornReeds x = new TornReeds();
        due.is("22: no letters", x.known(), -1);
        due.is("22: one", Due.known(x, "a"), 1);
        due.is("22: 200", Due.known(x, "ab".repeat(100)), 200);
        due.is("22: the tape goes", x.end(1), false);
        for (String wrong : new String[] {"a.", "a,b", "_", "A", "a b", "", "`", "{"}) {
            due.is("22: no letters: " + wrong, Due.known(x, wrong), -1);
            due.is("22: the tape goes in any case", x.end(1), false);
        }
        Due.bit(x, 0, "ab");
        due.is("22: refused, the text stays", x.stands(0, 60), 100);
        Due.known(x, "xab");
        due.is("22: another text", x.letter(0, 60, 0), 1);
        due.is("22: nothing else of the first one", x.stands(0, 60), 1);
    }

    private static void stands() {
        TornReeds x = new TornReeds();
        Due.bit(x, 0, "ab;ab");
        due.is("23: no text", x.stands(0, 4), -1);
        Due.known(x, "xabyxabyxaby");
        due.is("23: line below line", x.stands(0, 4), 2);
        due.is("23: no such lines", x.stands(0, 5), 0);
        due.is("23: the widest", x.stands(0, 60), 0);
        for (int i : new int[] {-1, 0, 1, 61, LEAST, GREATEST}) {
            due.is("23: no such width", x.stands(0, i), -1);
        }
        for (int i : new int[] {-1, 1, 10, LEAST, GREATEST}) {
            due.is("23: no such BIT", x.stands(i, 4), -1);
        }
        Due.bit(x, 1, "a.y");
        due.is("23: . is any", x.stands(1, 60), 3);
        due.is("23: within a line", x.stands(1, 2), 0);
        Due.bit(x, 2, "yx");
        due.is("23: not over a line's end", x.stands(2, 4), 0);
        due.is("23: unless the line is wider", x.stands(2, 60), 2);
        Due.bit(x, 3, "a,y");
        due.is("23: blanks are passed by", x.stands(3, 60), 3);
        Due.bit(x, 4, ",_;,");
        due.is("23: without a letter nowhere", x.stands(4, 60), 0);
        Due.bit(x, 5, ".");
        due.is("23: at each letter", x.stands(5, 7), 12);
        Due.bit(x, 6, "y,");
        due.is("23: a blank may be over the end", x.stands(6, 4), 3);
        Due.bit(x, 7, "b_______,,");
        due.is("23: though wider than a line", x.stands(7, 2), 3);
        Due.bit(x, 8, ".;.;.;.;.");
        due.is("23: five lines of two", x.stands(8, 2), 4);
        due.is("23: not beyond the last letter", x.stands(8, 3), 0);
        x.lay(0, 0, 0);
        due.is("23: though it lies", x.stands(0, 4), 2);
    }

    private static void letter() {
        TornReeds x = new TornReeds();
        Due.bit(x, 0, "a");
        due.is("24: no text", x.letter(0, 2, 0), -1000);
        Due.known(x, "abcaab");
        due.is("24: the least first", x.letter(0, 9, 0), 0);
        due.is("24: the next", x.letter(0, 9, 1), 3);
        due.is("24: the last", x.letter(0, 9, 2), 4);
        for (int i : new int[] {-1, 3, LEAST, GREATEST}) {
            due.is("24: no such k", x.letter(0, 9, i), -1000);
        }
        for (int i : new int[] {-1, 0, 1, 61, LEAST, GREATEST}) {
            due.is("24: no such width", x.letter(0, i, 0), -1000);
        }
        for (int i : new int[] {-1, 1, 10, LEAST, GREATEST}) {
            due.is("24: no such BIT", x.letter(i, 9, 0), -1000);
        }
        Due.bit(x, 1, ";;;;_________b");
        due.is("24: no letter so far behind in a line", x.letter(1, 60, 0), -1000);
        Due.bit(x, 2, ";;;;b");
        due.is("24: four lines ahead of the text", x.letter(2, 60, 0), -239);
        due.is("24: both of them", x.letter(2, 60, 1), -235);
        due.is("23: both of them", x.stands(2, 60), 2);
        Due.bit(x, 3, "_a");
        due.is("24: i is in the same line", x.letter(3, 9, 0), 2);
        due.is("24: so the first a has none", x.stands(3, 9), 2);
        Due.bit(x, 4, ",;_c");
        due.is("24: i is where a blank is", x.letter(4, 2, 0), -1000);
        due.is("24: ahead of the text", x.letter(4, 9, 0), -8);
        Due.known(x, "aaaaaaaaab");
        due.is("24: i far below 0", x.letter(1, 60, 0), -240);
    }

    private static void width() {
        TornReeds x = new TornReeds();
        Due.bit(x, 0, "a;a");
        due.is("25: no text", x.width(0, 2, 60), -1);
        Due.known(x, "abbabbabba");
        due.is("25: most often", x.width(0, 2, 60), 3);
        due.is("25: in none", x.width(0, 4, 5), -1);
        due.is("25: of the others", x.width(0, 4, 60), 6);
        due.is("25: one width alone", x.width(0, 9, 9), 9);
        due.is("25: the wrong way", x.width(0, 4, 3), -1);
        for (int i : new int[] {-1, 0, 1, 61, LEAST, GREATEST}) {
            due.is("25: no such first one", x.width(0, i, 60), -1);
            due.is("25: no such last one", x.width(0, 2, i), -1);
        }
        for (int i : new int[] {-1, 1, 10, LEAST, GREATEST}) {
            due.is("25: no such BIT", x.width(i, 2, 60), -1);
        }
        Due.bit(x, 1, "bb");
        due.is("25: of several the least", x.width(1, 2, 60), 3);
        due.is("25: from there on", x.width(1, 4, 60), 6);
        Due.bit(x, 2, ",");
        due.is("25: without a letter in none", x.width(2, 2, 60), -1);
    }
}
