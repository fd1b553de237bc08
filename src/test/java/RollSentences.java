/** The sentences on rolls and known texts. */
final class RollSentences {
    private static final int LEAST = Integer.MIN_VALUE;
    private static final int GREATEST = Integer.MAX_VALUE;
    private static final int[] NO_BITS = {-1, 10, -2, 11, 256, LEAST, GREATEST};
    private static final int[] NO_WIDTHS = {-1, 0, 1, 61, 62, -2, LEAST, GREATEST};

    private final Sentences s;

    RollSentences(Sentences s) {
        this.s = s;
    }

    void askAll() {
        holesOfRolls();
        lastHoles();
        holesOfBits();
        placesOfBits();
        holesThatAreSeen();
        knownTexts();
        lines();
        letterByLetter();
        aheadOfTheText();
        signsThatStand();
        roll();
        hole();
        holeRefused();
        stood();
        standing();
        known();
        stands();
        letter();
        width();
        widthRefused();
    }

    /** A roll, and a BIT 0 with holes. */
    private static TornReeds rolled(int gap, int step, int... holes) {
        TornReeds x = new TornReeds();
        x.roll(gap, step);
        Due.bit(x, 0, "a");
        for (int distance : holes) {
            x.hole(0, distance);
        }
        return x;
    }

    /** A text, and BITS. */
    private static TornReeds telling(String text, String... bits) {
        TornReeds x = new TornReeds();
        Due.known(x, text);
        for (int b = 0; b < bits.length; b++) {
            Due.bit(x, b, bits[b]);
        }
        return x;
    }

    private void placesAre(String what, TornReeds x, int... places) {
        s.is(what + ", how many", x.stood(0), places.length);
        for (int k = 0; k < places.length; k++) {
            s.is(what + ", " + k, x.standing(0, k), places[k]);
        }
        s.is(what + ", no more", x.standing(0, places.length), -1);
    }

    private void timesAre(String what, TornReeds x, int b, int w, int... times) {
        s.is(what + ", how often", x.stands(b, w), times.length);
        for (int k = 0; k < times.length; k++) {
            s.is(what + ", " + k, x.letter(b, w, k), times[k]);
        }
        s.is(what + ", no more", x.letter(b, w, times.length), -1000);
    }

    private void holesOfRolls() {
        s.says("Terms III", "A ROLL has HOLES: the first one at 0, each next one farther on than the one ahead"
                + " by GAP (1 .. 1000) less STEP (0 .. 100) for each HOLE ahead of that"
                + " (the second at GAP, the third GAP less STEP farther on, ..),");
        placesAre("a HOLE each", rolled(10, 4, 0), 0, 10, 16, 18);
        placesAre("the greatest numbers", rolled(1000, 100, 0),
                0, 1000, 1900, 2700, 3400, 4000, 4500, 4900, 5200, 5400, 5500);
        placesAre("the least GAP", rolled(1, 1, 0), 0, 1);
        placesAre("a STEP of 1", rolled(4, 1, 0), 0, 4, 7, 9, 10);
        TornReeds x = rolled(7, 0, 0);
        for (int k = 0; k < 40; k++) {
            s.is("without a STEP", x.standing(0, k), 7 * k);
        }
        for (int gap : new int[] {0, 1001, -1, LEAST, GREATEST}) {
            s.is("GAP " + gap, x.roll(gap, 0), -1);
        }
        for (int step : new int[] {-1, 101, -100, LEAST, GREATEST}) {
            s.is("STEP " + step, x.roll(1000, step), -1);
        }
        s.is("GAP 1", x.roll(1, 100), 2);
        s.is("GAP 1000", x.roll(1000, 100), 11);
        s.is("STEP 0", x.roll(1000, 0), 40);
    }

    private void lastHoles() {
        s.says("Terms III", "as long as that is 1 or more;");
        placesAre("the last one 1 farther on", rolled(9, 4, 0), 0, 9, 14, 15);
        placesAre("not 0 farther on", rolled(8, 4, 0), 0, 8, 12);
        placesAre("not back", rolled(7, 4, 0), 0, 7, 10);
        placesAre("GAP and STEP alike", rolled(100, 100, 0), 0, 100);
        placesAre("GAP greater by 1", rolled(101, 100, 0), 0, 101, 102);
        placesAre("GAP less than STEP", rolled(3, 5, 0), 0, 3);
        s.says("Terms III", "40 at most.");
        TornReeds x = rolled(1000, 0, 0);
        s.is("forty", x.stood(0), 40);
        s.is("the fortieth", x.standing(0, 39), 39000);
        s.is("no other", x.standing(0, 40), -1);
        s.is("39 by steps", x.roll(38, 1), 39);
        s.is("40 by steps", x.roll(39, 1), 40);
        s.is("no more by steps", x.roll(40, 1), 40);
        s.is("the least GAP", x.roll(1, 0), 40);
        s.is("fewer again", x.roll(2, 1), 3);
        s.is("of the ones before none is left", x.stood(0), 3);
    }

    private void holesOfBits() {
        s.says("Terms III", "A BIT with holes at told distances from its left rim (0 .. 2000, rising; up to 6)");
        TornReeds x = rolled(10, 0);
        s.is("below 0", x.hole(0, -1), -1);
        s.is("too far", x.hole(0, 2001), -1);
        s.is("at the rim", x.hole(0, 0), 1);
        s.is("again at the rim", x.hole(0, 0), -1);
        s.is("one farther on", x.hole(0, 1), 2);
        s.is("back", x.hole(0, 0), -1);
        s.is("the same", x.hole(0, 1), -1);
        s.is("far on", x.hole(0, 1998), 3);
        s.is("the fourth", x.hole(0, 1999), 4);
        s.is("as far as can be", x.hole(0, 2000), 5);
        s.is("not farther than that", x.hole(0, 2001), -1);
        s.is("nor there again", x.hole(0, 2000), -1);
        Due.bit(x, 1, "b");
        for (int n = 1; n <= 6; n++) {
            s.is("up to six", x.hole(1, n), n);
        }
        s.is("no seventh", x.hole(1, 7), -1);
        Due.bit(x, 2, "c");
        s.is("one as far as can be", x.hole(2, 2000), 1);
    }

    private void placesOfBits() {
        s.says("Terms III", "STOOD at a place p (0 or more) of the roll,");
        placesAre("not ahead of the roll", rolled(10, 4, 1), 9, 15, 17);
        placesAre("at its beginning", rolled(10, 4, 0, 10), 0);
        placesAre("one behind its beginning", rolled(10, 4, 9), 1);
        placesAre("with all holes on it", rolled(1, 1, 0, 1), 0);
        placesAre("its end alone", rolled(1, 1, 1));
        placesAre("farther than the roll is long", rolled(1, 1, 3));
        placesAre("the last place of all", rolled(1000, 0, 0, 1000, 2000), spaced(38));
    }

    /** Every thousandth place from 0 on. */
    private static int[] spaced(int count) {
        int[] places = new int[count];
        for (int i = 0; i < count; i++) {
            places[i] = 1000 * i;
        }
        return places;
    }

    private void holesThatAreSeen() {
        s.says("Terms III", "if the HOLES from p on, up to p and WIDE (its last hole's distance),"
                + " are just at p and these distances.");
        placesAre("the HOLE ahead is not seen", rolled(10, 4, 3), 7, 13);
        placesAre("the HOLE ahead is at p itself", rolled(10, 10, 10));
        placesAre("not where the HOLE ahead is at p itself", rolled(10, 4, 6), 4);
        placesAre("a HOLE between is seen, too", rolled(10, 4, 0, 16));
        placesAre("all HOLES between", rolled(10, 4, 0, 10, 16, 18), 0);
        placesAre("the HOLE behind is not seen", rolled(10, 4, 0, 6), 10);
        placesAre("the HOLE behind is just beyond", rolled(4, 1, 0, 4, 7, 9), 0);
        placesAre("a hole where there is no HOLE", rolled(10, 4, 0, 10, 15));
        placesAre("one hole more than HOLES", rolled(10, 4, 0, 10, 16, 18, 19));
        placesAre("the last HOLES", rolled(10, 4, 0, 2), 16);
        placesAre("the last HOLES, farther from the rim", rolled(10, 4, 5, 7), 11);
        placesAre("the last HOLES, where one ahead is at p itself", rolled(10, 4, 6, 8));
        TornReeds x = rolled(10, 0, 0, 10, 20, 30, 40, 50);
        s.is("six holes", x.stood(0), 35);
        s.is("the last place", x.standing(0, 34), 340);
        TornReeds y = rolled(1000, 0, 999);
        s.is("wide, but not too wide", y.stood(0), 39);
        TornReeds z = rolled(1000, 0, 1000);
        s.is("too wide by one", z.stood(0), 0);
    }

    private void knownTexts() {
        s.says("Terms III", "A KNOWN text has 1 to 200 letters a .. z, without blanks.");
        TornReeds x = new TornReeds();
        s.is("no letter", x.known(), -1);
        s.is("one letter", Due.known(x, "a"), 1);
        s.is("199 letters", Due.known(x, "a".repeat(199)), 199);
        s.is("200 letters", Due.known(x, "a".repeat(199) + "z"), 200);
        Due.bit(x, 0, "az");
        s.is("up to the last of them", x.letter(0, 2, 0), 198);
        for (int sign = 0; sign < 256; sign++) {
            TornReeds y = new TornReeds();
            boolean letter = sign >= 'a' && sign <= 'z';
            s.is("behind a letter sign " + sign, Due.known(y, "a" + (char) sign), letter ? 2 : -1);
            s.is("ahead of one sign " + sign, Due.known(y, (char) sign + "a"), letter ? 2 : -1);
        }
    }

    private void lines() {
        s.says("Terms III", "In a width w (2 .. 60) it is in lines of w letters.");
        TornReeds x = telling("abcdefg", "a;c;e;g", "b;e", "a;d;g", "bc", "ab", "g", "cd", "c;f");
        timesAre("lines of 2", x, 0, 2, 0);
        timesAre("lines of 3", x, 0, 3);
        timesAre("lines of 3, from the second letter on", x, 1, 3, 1);
        timesAre("down to the last line, which is shorter", x, 2, 3, 0);
        timesAre("over the end of a line of 2", x, 3, 2);
        timesAre("within a line of 3", x, 3, 3, 1);
        timesAre("a whole line of 2", x, 4, 2, 0);
        timesAre("the next line of 2", x, 6, 2, 2);
        timesAre("over the end of a line of 3", x, 6, 3);
        timesAre("the last letters of lines of 3", x, 7, 3, 2);
        timesAre("the last letter, in a line of its own", x, 5, 2, 6);
        for (int w : NO_WIDTHS) {
            s.is("width " + w, x.stands(5, w), -1);
            s.is("width " + w, x.letter(5, w, 0), -1000);
        }
        for (int w = 2; w <= 60; w++) {
            s.is("width " + w, x.stands(5, w), 1);
        }
        TornReeds y = telling("a" + "b".repeat(59) + "c", "a;c", "bc");
        timesAre("lines of 60", y, 0, 60, 0);
        timesAre("lines of 59", y, 0, 59);
        timesAre("over the end of a line of 60", y, 1, 60);
        timesAre("over no end of a line of 59", y, 1, 59, 59);
    }

    private void letterByLetter() {
        s.says("Terms III", "A BIT STANDS in it at i (a whole number, which may be below 0; its line is floor(i / w)),"
                + " if each of its CELLS that is a letter or . , that in its ROW r and column c (from 0 on),"
                + " is at letter i + r w + c of the text (from 0 on), which is there, is in line floor(i / w) + r,");
        TornReeds x = telling("abcde", "..", ".;.", ".;.;.", "e.", "_e", "c;e", "..........", "a_c;d", "de", ".....");
        timesAre("each two letters", x, 0, 60, 0, 1, 2, 3);
        timesAre("each two letters of lines of 3", x, 0, 3, 0, 1, 3);
        timesAre("each two lines of 3", x, 1, 3, 0, 1);
        timesAre("each three lines of 2", x, 2, 2, 0);
        timesAre("no three lines of 3", x, 2, 3);
        timesAre("behind the last letter none is there", x, 3, 60);
        timesAre("the last letter behind nothing", x, 4, 60, 3);
        timesAre("one below the other", x, 5, 2, 2);
        timesAre("wider than the text", x, 6, 60);
        timesAre("each CELL of each ROW", x, 7, 3, 0);
        timesAre("one ROW in no other width", x, 7, 4);
        timesAre("the last two", x, 8, 5, 3);
        timesAre("the last two over the end of a line", x, 8, 4);
        timesAre("as wide as the line", x, 9, 5, 0);
        timesAre("wider than the line", x, 9, 4);
        TornReeds y = telling("a".repeat(200), "..........;..........;..........;..........;..........", ".........a");
        s.is("as large as can be, in narrow lines", y.stands(0, 9), 0);
        s.is("in lines as wide as it is", y.stands(0, 10), 16);
        s.is("in lines wider by one", y.stands(0, 11), 2 * 14);
        s.is("as wide as can be, in all lines of 10", y.stands(1, 10), 20);
    }

    private void aheadOfTheText() {
        TornReeds x = telling("ab", ";a", "_a", ";_a", "_;_b", ";;;;a", ";;;;_________b", "_b", ";.", ",;a", "_;ab");
        timesAre("a line ahead of the text", x, 0, 5, -5);
        timesAre("a line of 2 ahead of the text", x, 0, 2, -2);
        timesAre("a letter ahead of the text is in another line", x, 1, 5);
        timesAre("a line and a letter ahead, too", x, 2, 5);
        timesAre("a line ahead, in the second column", x, 3, 5, -5);
        timesAre("four lines ahead", x, 4, 60, -240);
        timesAre("four lines of 2 ahead", x, 4, 2, -8);
        timesAre("too far behind the line's beginning", x, 5, 60);
        timesAre("the second letter behind nothing", x, 6, 5, 0);
        timesAre("each letter, below nothing", x, 7, 5, -5, -4);
        timesAre("below a blank", x, 8, 5, -5);
        timesAre("two letters below nothing", x, 9, 2, -2);
        TornReeds y = telling("aaaaaaaaab", ";;;;_________b", ";;;;.", ";;;;_________.");
        timesAre("four lines of 60 ahead", y, 0, 60, -240);
        timesAre("each letter, four lines of 60 ahead", y, 1, 60,
                -240, -239, -238, -237, -236, -235, -234, -233, -232, -231);
        timesAre("the last letter alone", y, 2, 60, -240);
        timesAre("no line of 9 is so wide", y, 2, 9);
        timesAre("four lines of 10 ahead", y, 2, 10, -40);
    }

    private void signsThatStand() {
        s.says("Terms III", "and is the same, if the CELL is a letter (blanks are passed by, as if there were nothing;"
                + " it has one such CELL at least).");
        TornReeds x = telling("abab", "a", ".", ",", "b,", ",a", "a,,,,,,,,,", ",;,;,;,;,,b", "_,_", "a,a", "c");
        timesAre("a letter", x, 0, 60, 0, 2);
        timesAre("any letter", x, 1, 60, 0, 1, 2, 3);
        timesAre("a blank alone", x, 2, 60);
        timesAre("a blank over the end of the line", x, 3, 2, 1, 3);
        timesAre("a blank over the end of the text", x, 3, 60, 1, 3);
        timesAre("a blank ahead of the text", x, 4, 60, 1);
        timesAre("a blank ahead of the line", x, 4, 2);
        timesAre("many blanks", x, 5, 2, 0, 2);
        timesAre("ROWS of blanks", x, 6, 60, -239);
        timesAre("a blank behind nothing", x, 7, 2);
        timesAre("a blank for any letter", x, 8, 60, 0);
        timesAre("another letter", x, 9, 60);
        s.is("a blank alone in any width", x.width(2, 2, 60), -1);
    }

    private void roll() {
        s.says("Promise 18", "The ROLL: how many HOLES it has;");
        TornReeds x = rolled(10, 4, 0);
        s.is("four", x.roll(10, 4), 4);
        s.is("two", x.roll(10, 10), 2);
        placesAre("it is the one told last", x, 0, 10);
        s.says("Promise 18", "NONE when a number can't be.");
        for (int gap : new int[] {0, -1, 1001, LEAST, GREATEST}) {
            s.is("GAP " + gap, x.roll(gap, 1), -1);
        }
        for (int step : new int[] {-1, 101, LEAST, GREATEST}) {
            s.is("STEP " + step, x.roll(5, step), -1);
        }
        s.is("neither", x.roll(0, 101), -1);
        placesAre("the ROLL stays", x, 0, 10);
        TornReeds y = new TornReeds();
        y.roll(0, 0);
        Due.bit(y, 0, "a");
        y.hole(0, 0);
        s.is("so there is none", y.stood(0), -1);
    }

    private void hole() {
        s.says("Promise 19", "A hole more of a BIT, farther on than its last one: how many;");
        TornReeds x = rolled(10, 4, 0);
        s.is("the second", x.hole(0, 6), 2);
        placesAre("with it", x, 10);
        x.lay(0, 0, 0);
        s.is("the third, while it lies", x.hole(0, 8), 3);
        placesAre("with that one", x, 10);
        Due.bit(x, 1, "b");
        s.is("the first of another BIT", x.hole(1, 3), 1);
        s.is("the second of that one", x.hole(1, 4), 2);
        Due.bit(x, 0, "a");
        s.is("the first of a BIT told anew", x.hole(0, 5), 1);
    }

    private void holeRefused() {
        s.says("Promise 19", "NONE when that can't be, or there are 6.");
        TornReeds x = rolled(10, 4, 0, 6);
        for (int distance : new int[] {6, 5, 0, -1, 2001, LEAST, GREATEST}) {
            s.is("distance " + distance, x.hole(0, distance), -1);
        }
        placesAre("refused, they stay", x, 10);
        for (int b : NO_BITS) {
            s.is("number " + b, x.hole(b, 9), -1);
        }
        s.is("never told", x.hole(1, 0), -1);
        for (int n = 3; n <= 6; n++) {
            s.is("up to six", x.hole(0, 4 + n), n);
        }
        s.is("there are six", x.hole(0, 11), -1);
        s.is("there are six, however far", x.hole(0, 2000), -1);
        TornReeds y = rolled(10, 0, 0, 10, 20, 30, 40, 50);
        y.hole(0, 55);
        s.is("refused, there are six", y.stood(0), 35);
    }

    private void stood() {
        s.says("Promise 20", "How many places there are at which a BIT STOOD;");
        s.is("one hole", rolled(5, 0, 2).stood(0), 39);
        s.is("two holes", rolled(5, 0, 2, 7).stood(0), 38);
        s.is("none", rolled(5, 0, 2, 8).stood(0), 0);
        s.is("as many as HOLES", rolled(5, 0, 0).stood(0), 40);
        s.says("Promise 20", "NONE without a ROLL, a hole, or when there is none such.");
        TornReeds x = new TornReeds();
        Due.bit(x, 0, "a");
        s.is("without either", x.stood(0), -1);
        x.hole(0, 0);
        s.is("without a ROLL", x.stood(0), -1);
        x.roll(5, 0);
        s.is("with both", x.stood(0), 40);
        Due.bit(x, 0, "a");
        s.is("without a hole", x.stood(0), -1);
        s.is("never told", x.stood(1), -1);
        for (int b : NO_BITS) {
            s.is("number " + b, x.stood(b), -1);
        }
    }

    private void standing() {
        s.says("Promise 21", "The k-th of these, the least first;");
        TornReeds x = rolled(5, 0, 2);
        for (int k = 0; k < 39; k++) {
            s.is("k is " + k, x.standing(0, k), 5 * k + 3);
        }
        s.says("Promise 21", "NONE when there is none such.");
        for (int k : new int[] {39, 40, -1, LEAST, GREATEST}) {
            s.is("k is " + k, x.standing(0, k), -1);
        }
        s.is("never told", x.standing(1, 0), -1);
        for (int b : NO_BITS) {
            s.is("number " + b, x.standing(b, 0), -1);
        }
        x.hole(0, 8);
        s.is("it STOOD nowhere", x.standing(0, 0), -1);
        Due.bit(x, 0, "a");
        s.is("without a hole", x.standing(0, 0), -1);
        TornReeds y = new TornReeds();
        Due.bit(y, 0, "a");
        y.hole(0, 0);
        s.is("without a ROLL", y.standing(0, 0), -1);
    }

    private void known() {
        s.says("Promise 22", "The tape (it goes, in any case) is the KNOWN text: how many letters;");
        TornReeds x = telling("xaxa", "xa", "z");
        s.is("it went", x.end(1), false);
        timesAre("the text", x, 0, 60, 0, 2);
        s.is("another text", Due.known(x, "zxa"), 3);
        timesAre("nothing of the one before", x, 0, 60, 1);
        timesAre("its first letter", x, 1, 60, 0);
        Due.known(x, "x-a");
        s.is("it goes with what is none", x.end(1), false);
        s.says("Promise 22", "NONE when that can't be.");
        s.is("no tape", x.known(), -1);
        for (String wrong : new String[] {"", "x,a", "x.a", "x_a", "x;a", "X", "x ", "a".repeat(199) + "A"}) {
            s.is("no text: " + wrong, Due.known(x, wrong), -1);
        }
        timesAre("the text stays", x, 0, 60, 1);
    }

    private void stands() {
        s.says("Promise 23", "How often a BIT STANDS in the KNOWN text in a width;");
        TornReeds x = telling("xabyxabyxaby", "ab;ab", "yx", ".");
        s.is("in lines of 4", x.stands(0, 4), 2);
        s.is("in lines of 8", x.stands(0, 8), 1);
        s.is("in lines of 5", x.stands(0, 5), 0);
        s.is("over the ends of lines", x.stands(1, 4), 0);
        s.is("in one line", x.stands(1, 60), 2);
        s.is("each letter", x.stands(2, 60), 12);
        x.lay(0, 3, 3);
        s.is("while it lies", x.stands(0, 4), 2);
        s.says("Promise 23", "NONE when there is none such, no text, or w can't be.");
        s.is("never told", x.stands(3, 4), -1);
        for (int b : NO_BITS) {
            s.is("number " + b, x.stands(b, 4), -1);
        }
        for (int w : NO_WIDTHS) {
            s.is("width " + w, x.stands(0, w), -1);
        }
        TornReeds y = new TornReeds();
        Due.bit(y, 0, "a");
        s.is("no text", y.stands(0, 4), -1);
        Due.known(y, "A");
        s.is("no text, as it was refused", y.stands(0, 4), -1);
    }

    private void letter() {
        s.says("Promise 24", "At which i the k-th time, the least first;");
        TornReeds x = telling("abcaab", "a", ";a", "q");
        int[] times = {0, 3, 4};
        for (int k = 0; k < 3; k++) {
            s.is("k is " + k, x.letter(0, 9, k), times[k]);
            s.is("below 0, k is " + k, x.letter(1, 9, k), times[k] - 9);
        }
        s.is("by a line of 60", x.letter(1, 60, 0), -60);
        s.says("Promise 24", "-1000 when there is none such.");
        for (int k : new int[] {3, 4, -1, LEAST, GREATEST}) {
            s.is("k is " + k, x.letter(0, 9, k), -1000);
        }
        s.is("it STANDS nowhere", x.letter(2, 9, 0), -1000);
        s.is("never told", x.letter(3, 9, 0), -1000);
        for (int b : NO_BITS) {
            s.is("number " + b, x.letter(b, 9, 0), -1000);
        }
        for (int w : NO_WIDTHS) {
            s.is("width " + w, x.letter(0, w, 0), -1000);
        }
        TornReeds y = new TornReeds();
        Due.bit(y, 0, "a");
        s.is("no text", y.letter(0, 9, 0), -1000);
    }

    private void width() {
        s.says("Promise 25", "The width from one up to another one in which a BIT STANDS most often"
                + " (of several the least);");
        TornReeds x = telling("abbabbabba", "a;a", "bb", ".", ".;.");
        s.is("three times", x.width(0, 2, 60), 3);
        s.is("the first of them", x.width(0, 3, 60), 3);
        s.is("without that one", x.width(0, 4, 60), 6);
        s.is("up to the best one", x.width(0, 2, 3), 3);
        s.is("up to the one ahead of it", x.width(0, 2, 2), -1);
        s.is("the last one alone", x.width(0, 9, 9), 9);
        s.is("the widest alone", x.width(1, 60, 60), 60);
        s.is("the narrowest alone", x.width(2, 2, 2), 2);
        s.is("of several the least", x.width(2, 2, 60), 2);
        s.is("of several from there on", x.width(2, 7, 60), 7);
        s.is("more often in a later one", x.width(1, 2, 60), 3);
        s.is("in narrow lines", x.width(3, 2, 60), 2);
        s.is("in the narrowest that there are", x.width(3, 5, 60), 5);
        x.lay(0, 0, 0);
        s.is("while it lies", x.width(0, 2, 60), 3);
    }

    private void widthRefused() {
        s.says("Promise 25", "NONE when it does in none, or they can't be.");
        TornReeds x = telling("abbabbabba", "a;a", "q", ",");
        s.is("in none of some", x.width(0, 4, 5), -1);
        s.is("in none of all", x.width(1, 2, 60), -1);
        s.is("a blank alone", x.width(2, 2, 60), -1);
        s.is("from the greater to the lesser", x.width(0, 4, 3), -1);
        s.is("from the greatest to the least", x.width(0, 60, 2), -1);
        for (int w : NO_WIDTHS) {
            s.is("from " + w, x.width(0, w, 60), -1);
            s.is("up to " + w, x.width(0, 2, w), -1);
            s.is("from " + w + " up to it", x.width(0, w, w), -1);
        }
        s.is("never told", x.width(3, 2, 60), -1);
        for (int b : NO_BITS) {
            s.is("number " + b, x.width(b, 2, 60), -1);
        }
        TornReeds y = new TornReeds();
        Due.bit(y, 0, "a");
        s.is("no text", y.width(0, 2, 60), -1);
    }
}
