/** The sentences on JOINS of one BIT or of two. */
final class JoinSentences {
    private static final int LEAST = Integer.MIN_VALUE;
    private static final int GREATEST = Integer.MAX_VALUE;
    private static final String LARGE = "..........;..........;..........;..........;..........";

    private final Sentences s;

    JoinSentences(Sentences s) {
        this.s = s;
    }

    void askAll() {
        looseOnes();
        roomForJoins();
        roomAfterOtherJoins();
        fibresOfJoins();
        wordsOfJoins();
        touchOfOne();
        touchOfTwo();
        touchByTheOther();
        touchByLargeOnes();
        greatestWorth();
        greatestWorthOfTwo();
        leastPlace();
        leastPlaceOfTwo();
        join();
        joinOfNone();
        noJoin();
        joins();
        joinsOfNone();
    }

    private static TornReeds with(String... texts) {
        TornReeds x = new TornReeds();
        for (int b = 0; b < texts.length; b++) {
            Due.bit(x, b, texts[b]);
        }
        return x;
    }

    /** Tells FIBRES of a BIT's first ROW and column. */
    private static void tell(TornReeds x, int b, int across, int down) {
        x.fibre(b, true, 0, across);
        x.fibre(b, false, 0, down);
    }

    private void looseOnes() {
        s.says("Terms II", "JOINS of one or two BITS that do not lie, with those that lie (some do):");
        TornReeds x = with("a", "b", "c");
        s.is("of one, none lies", x.join(1, -1), -1);
        s.is("of two, none lies", x.join(1, 2), -1);
        s.is("how many, none lies", x.joins(1), -1);
        x.lay(0, 5, 5);
        s.is("of one that lies", x.join(0, -1), -1);
        s.is("of two, the first one lies", x.join(0, 1), -1);
        s.is("of two, the second one lies", x.join(1, 0), -1);
        s.is("how many of one that lies", x.joins(0), -1);
        s.is("of one", x.join(1, -1), 1);
        x.take(1);
        s.is("of two", x.join(1, 2), 2);
        x.take(0);
        x.take(1);
        s.is("with one that was joined itself", x.join(0, 1), 2);
        x.take(0);
        x.take(1);
        x.take(2);
        s.is("none lies any more", x.join(1, -1), -1);
    }

    private void roomForJoins() {
        s.says("Terms II", "places so that all may lie,");
        TornReeds x = with("a", LARGE, LARGE);
        x.lay(0, 0, 0);
        s.is("by the corner", x.joins(1), 2);
        s.is("two by the corner", x.join(1, 2), 11);
        s.lies("the lesser number behind it", x, 1, 0, 1);
        s.lies("the other one below that", x, 2, 5, 1);
        // Nine CELLS that no place for a large BIT is without.
        TornReeds y = new TornReeds();
        for (int b = 0; b < 9; b++) {
            Due.bit(y, b, ",");
            y.lay(b, 4 + b / 3 * 5, 9 + b % 3 * 10);
        }
        Due.bit(y, 9, LARGE);
        s.is("no room", y.joins(9), 0);
        s.is("no JOIN", y.join(9, -1), -2);
        y.take(8);
        s.is("room in the last corner, not always by one that lies", y.joins(9), 4);
        s.is("room for two", y.join(8, 9), 4);
        s.lies("the lesser number above the other one", y, 8, 9, 20);
        s.lies("the other one by two that lay", y, 9, 10, 20);
        TornReeds z = with(LARGE, LARGE);
        z.lay(0, 5, 11);
        s.is("all about a large one", z.joins(1), 56);
        z.take(0);
        z.lay(0, 11, 22);
        s.is("in the last corner", z.joins(1), 15);
    }

    /** What was free in one JOIN, and of great WORTH, is taken in the next. */
    private void roomAfterOtherJoins() {
        TornReeds x = with("a", "b", "c", ",");
        tell(x, 0, 7, 0);
        tell(x, 2, 7, 0);
        x.lay(0, 15, 31);
        s.is("by what lay", x.join(1, 2), 4);
        s.lies("the place of great WORTH", x, 2, 15, 30);
        x.take(1);
        x.take(2);
        tell(x, 2, 0, 0);
        x.lay(3, 15, 30);
        s.is("the place is taken", x.join(1, 2), 4);
        s.lies("above it", x, 1, 14, 30);
        s.lies("above the other one", x, 2, 14, 31);
    }

    private void fibresOfJoins() {
        TornReeds x = with("a", "b", "c");
        tell(x, 0, 1, 1);
        tell(x, 1, 1, 2);
        tell(x, 2, 1, 3);
        x.lay(0, 5, 5);
        s.is("without a QUARREL in its column", x.joins(1), 2);
        s.is("nor in those of the two", x.join(1, 2), 8);
        s.lies("the lesser number ahead of the other one", x, 1, 5, 3);
        s.lies("the other one ahead of what lay", x, 2, 5, 4);
        x.take(1);
        x.take(2);
        tell(x, 1, 2, 2);
        tell(x, 2, 2, 3);
        s.is("in a QUARREL everywhere", x.joins(1), 0);
        s.is("both of them", x.join(1, 2), -2);
    }

    private void wordsOfJoins() {
        TornReeds x = with("b", "a", "c");
        Due.word(x, "abc");
        x.lay(0, 5, 5);
        s.is("ahead of its RUN, above and below", x.joins(1), 3);
        s.is("behind its RUN, above and below", x.joins(2), 3);
        tell(x, 1, 7, 0);
        tell(x, 2, 7, 0);
        s.is("the two as one RUN can be none", x.join(1, 2), 4);
        s.lies("so one is ahead of the RUN", x, 1, 5, 4);
        s.lies("the other one behind it", x, 2, 5, 6);
        x.take(0);
        Due.bit(x, 0, "q");
        x.take(1);
        x.take(2);
        Due.bit(x, 3, ",");
        x.lay(3, 0, 0);
        s.is("no word", x.joins(0), 0);
        s.is("no word, with another one that is", x.join(0, 1), -2);
        TornReeds y = with("q", "a", "b");
        y.lay(0, 0, 0);
        Due.word(y, "ab");
        s.is("none while a RUN that lay can be no word", y.joins(1), 0);
        s.is("nor of two", y.join(1, 2), -2);
    }

    private void touchOfOne() {
        s.says("Terms II", "one TOUCHES a BIT that lay, the other one that or the first one;");
        TornReeds x = with("a", "b", "c");
        tell(x, 0, 1, 1);
        tell(x, 1, 2, 2);
        x.lay(0, 5, 5);
        s.is("one that may lie, but TOUCHES none there", x.join(1, -1), -2);
        s.is("it may lie at a corner", x.lay(1, 4, 4), true);
        x.take(1);
        s.is("by another one", x.join(1, 2), 2);
        s.lies("which is above what lay", x, 2, 4, 5);
        s.lies("it is ahead of that one", x, 1, 4, 4);
        x.take(1);
        x.take(2);
        tell(x, 2, 2, 2);
        s.is("two that may lie and TOUCH each other", x.lay(1, 0, 0) && x.lay(2, 0, 1), true);
        x.take(1);
        x.take(2);
        s.is("but none that lay", x.join(1, 2), -2);
    }

    private void touchOfTwo() {
        TornReeds x = with("a", "b", "c", "d");
        tell(x, 0, 1, 0);
        tell(x, 3, 2, 0);
        tell(x, 1, 1, 0);
        tell(x, 2, 2, 0);
        x.lay(0, 0, 0);
        x.lay(3, 15, 31);
        s.is("each by another one that lay", x.join(1, 2), 6);
        s.lies("the lesser number behind the first", x, 1, 0, 1);
        s.lies("the other one ahead of the last", x, 2, 15, 30);
        TornReeds y = with("aaa", "b", "c");
        tell(y, 1, 1, 1);
        tell(y, 2, 2, 2);
        y.lay(0, 5, 5);
        s.is("both by the same one, not by each other", y.join(1, 2), 2);
        s.lies("the lesser number above it", y, 1, 4, 5);
        s.lies("the other one ahead of it", y, 2, 5, 4);
        TornReeds z = with("a", "b", "c");
        tell(z, 0, 1, 1);
        tell(z, 2, 2, 2);
        z.lay(0, 5, 5);
        tell(z, 1, 3, 3);
        s.is("neither", z.join(1, 2), -2);
        tell(z, 1, 1, 1);
        s.is("the other one neither this nor that", z.join(1, 2), -2);
        tell(z, 1, 1, 0);
        s.is("the other one by the first", z.join(1, 2), 4);
        s.lies("which is ahead of what lay", z, 1, 5, 4);
        s.lies("it is above that one", z, 2, 4, 4);
    }

    /** The lesser number reaches what lay by the other one alone, and the other way about. */
    private void touchByTheOther() {
        for (int far = 1; far <= 2; far++) {
            int near = 3 - far;
            TornReeds x = with("a", "b", "c");
            tell(x, 0, 1, 1);
            tell(x, far, 2, 2);
            x.lay(0, 0, 0);
            s.is("the far one has no place alone", x.joins(far), 0);
            s.is("it has by the near one", x.join(1, 2), 2);
            s.lies("the near one behind what lay", x, near, 0, 1);
            s.lies("the far one at the corner between", x, far, 1, 1);
        }
        TornReeds x = with("_,;,_;_,", "b", "c");
        x.lay(0, 5, 5);
        s.is("what has CELLS at corners", x.joins(1), 8);
        s.is("both at most sides", x.join(1, 2), 5);
        s.lies("the one", x, 1, 5, 5);
        s.lies("the other", x, 2, 6, 6);
    }

    /** BITS as high, or as wide, as can be, the far one above, below, ahead of or behind the near one. */
    private void touchByLargeOnes() {
        for (int far = 1; far <= 2; far++) {
            int near = 3 - far;
            TornReeds x = with(".", ".;.;.;.;.", ".;.;.;.;.");
            TornReeds y = with(".", "..........", "..........");
            x.fibre(0, true, 0, 9);
            y.fibre(0, false, 0, 9);
            for (int i = 0; i < 10; i++) {
                x.fibre(near, true, i, 9);
                x.fibre(far, true, i, 2);
                y.fibre(near, false, i, 9);
                y.fibre(far, false, i, 2);
            }
            int[][] high = {{14, 0, 10, 1, 5, 1}, {1, 0, 0, 1, 5, 1}};
            for (int[] at : high) {
                x.lay(0, at[0], at[1]);
                s.is("as high as can be", x.join(1, 2), 4);
                s.lies("the near one", x, near, at[2], at[3]);
                s.lies("the far one", x, far, at[4], at[5]);
                takeAll(x);
            }
            int[][] wide = {{0, 30, 1, 21, 1, 11}, {0, 1, 1, 0, 1, 10}};
            for (int[] at : wide) {
                y.lay(0, at[0], at[1]);
                s.is("as wide as can be", y.join(1, 2), 4);
                s.lies("the near one", y, near, at[2], at[3]);
                s.lies("the far one", y, far, at[4], at[5]);
                takeAll(y);
            }
        }
    }

    private static void takeAll(TornReeds x) {
        for (int b = 0; b < 3; b++) {
            x.take(b);
        }
    }

    private void greatestWorth() {
        s.says("Terms II", "of greatest WORTH of THE SHEET;");
        TornReeds x = with("aaa;a_a", "b", "c");
        x.lay(0, 5, 5);
        s.is("at most sides", x.join(1, -1), 3);
        s.lies("in the notch", x, 1, 6, 6);
        x.take(1);
        x.take(0);
        x.fibre(0, false, 2, 8);
        x.lay(0, 5, 5);
        tell(x, 1, 0, 8);
        s.is("a FIBRE and a side are as many as three sides", x.join(1, -1), 3);
        s.lies("so the least place", x, 1, 4, 7);
        x.take(1);
        x.take(0);
        x.fibre(0, true, 1, 9);
        x.lay(0, 5, 5);
        tell(x, 1, 9, 8);
        s.is("a FIBRE and three sides are more", x.join(1, -1), 5);
        s.lies("so the notch", x, 1, 6, 6);
        x.take(1);
        x.lay(2, 14, 30);
        s.is("with all that lies elsewhere", x.join(1, -1), 5);
        x.take(2);
        x.lay(2, 7, 6);
        s.is("and what that one is worth", x.worth(), 6);
        TornReeds y = with("a", "b", "c");
        tell(y, 0, 7, 0);
        tell(y, 1, 7, 0);
        tell(y, 2, 7, 0);
        y.lay(0, 5, 5);
        y.lay(1, 5, 20);
        s.is("a FIBRE of two that lie", y.join(2, -1), 7);
        s.lies("counts for both", y, 2, 5, 4);
        TornReeds z = with("a_a;aaa", "b");
        z.fibre(0, true, 1, 7);
        tell(z, 1, 7, 0);
        z.lay(0, 5, 5);
        s.is("three sides are as many as a FIBRE and a side", z.join(1, -1), 3);
        s.lies("so the least place, the notch", z, 1, 5, 6);
    }

    private void greatestWorthOfTwo() {
        TornReeds x = with("aaa;a_a", "b", "c");
        x.lay(0, 5, 5);
        s.is("of both together", x.join(1, 2), 4);
        s.lies("the lesser number leaves the notch for a lesser place", x, 1, 4, 5);
        s.lies("to the other one", x, 2, 6, 6);
        x.take(1);
        x.take(2);
        tell(x, 1, 3, 0);
        tell(x, 2, 3, 0);
        s.is("FIBRES of the two", x.join(1, 2), 6);
        s.lies("the lesser number ahead of the notch's ROW", x, 1, 6, 4);
        s.lies("the other one in the notch", x, 2, 6, 6);
        TornReeds y = with("a", "bb", "_c;cc");
        y.lay(0, 5, 5);
        s.is("sides of the two to each other", y.join(1, 2), 4);
        s.lies("the lesser number above what lay, in the other one's arm", y, 1, 4, 5);
        s.lies("the other one by both", y, 2, 4, 6);
        TornReeds z = with(LARGE, LARGE, LARGE);
        for (int b = 0; b < 3; b++) {
            for (int i = 0; i < 10; i++) {
                z.fibre(b, true, i, 1 + i);
                z.fibre(b, false, i, 1 + i);
            }
        }
        z.lay(0, 11, 22);
        s.is("ten columns of three, and twenty sides", z.join(1, 2), 80);
        s.lies("above both", z, 1, 1, 22);
        s.lies("between", z, 2, 6, 22);
        fibresOfTheTwo();
        shiftedFibresOfTheTwo();
    }

    /** A FIBRE that the two have alike is worth as much as two more sides, no more and no less. */
    private void fibresOfTheTwo() {
        TornReeds x = with("a_a;aaa;a_a", "b", "c");
        tell(x, 1, 3, 0);
        tell(x, 2, 3, 0);
        x.lay(0, 5, 5);
        s.is("a notch and a FIBRE across are as many as two notches", x.join(1, 2), 6);
        s.lies("the lesser number has a lesser place so", x, 1, 5, 4);
        s.lies("the other one has the notch", x, 2, 5, 6);
        TornReeds y = with("aaa;_a_;aaa", "b", "c");
        tell(y, 1, 0, 3);
        tell(y, 2, 0, 3);
        y.lay(0, 0, 5);
        s.is("two notches are as many as a notch and a FIBRE down", y.join(1, 2), 6);
        s.lies("the lesser number has one", y, 1, 1, 5);
        s.lies("the other one has a lesser place so", y, 2, 1, 7);
    }

    private void shiftedFibresOfTheTwo() {
        TornReeds x = with("a", "b;b", "c;c");
        x.fibre(1, true, 1, 4);
        x.fibre(2, true, 0, 4);
        x.fibre(2, true, 1, 5);
        x.lay(0, 5, 5);
        s.is("a FIBRE of the one's second ROW and the other's first", x.join(1, 2), 5);
        s.lies("the one above what lay", x, 1, 3, 5);
        s.lies("the other one farther down", x, 2, 4, 4);
        TornReeds y = with("a", "bb", "cc");
        y.fibre(1, false, 1, 4);
        y.fibre(2, false, 0, 4);
        y.fibre(2, false, 1, 5);
        y.lay(0, 5, 5);
        s.is("a FIBRE of the one's second column and the other's first", y.join(1, 2), 5);
        s.lies("the one above what lay", y, 1, 4, 5);
        s.lies("the other one farther on", y, 2, 5, 6);
    }

    private void leastPlace() {
        s.says("Terms II", "of several that with the least place (row, then column) of the BIT with the lesser number,"
                + " then of the other one.");
        TornReeds x = with("a", "b", ";;;;_________c");
        x.lay(0, 5, 5);
        x.join(1, -1);
        s.lies("the least row", x, 1, 4, 5);
        x.take(1);
        x.take(0);
        x.lay(0, 0, 5);
        x.join(1, -1);
        s.lies("then the least column", x, 1, 0, 4);
        x.take(1);
        x.take(0);
        x.lay(0, 0, 0);
        x.join(1, -1);
        s.lies("in the first corner", x, 1, 0, 1);
        x.take(1);
        x.join(2, -1);
        s.lies("a place below 0 in both", x, 2, -4, -8);
        x.take(2);
        x.take(0);
        x.lay(0, 0, 1);
        x.join(2, -1);
        s.lies("as far below 0 as can be", x, 2, -4, -9);
        x.take(2);
        x.take(0);
        x.lay(0, 15, 31);
        x.join(1, -1);
        s.lies("the least row, though its column is greater", x, 1, 14, 31);
    }

    private void leastPlaceOfTwo() {
        for (int order = 0; order < 2; order++) {
            TornReeds x = new TornReeds();
            Due.bit(x, 9, "a");
            Due.bit(x, 3, "b");
            Due.bit(x, 7, "c");
            x.lay(9, 5, 5);
            s.is("told in any order", order == 0 ? x.join(3, 7) : x.join(7, 3), 2);
            s.lies("the lesser number as far up as can be", x, 3, 3, 5);
            s.lies("the other one between", x, 7, 4, 5);
        }
        TornReeds y = with("a", "b", "c");
        tell(y, 1, 1, 1);
        tell(y, 2, 2, 2);
        y.lay(0, 5, 5);
        y.join(2, 1);
        s.lies("the lesser number first", y, 1, 4, 5);
        s.lies("of the other one's places the least, too", y, 2, 5, 4);
        y.take(1);
        y.take(2);
        y.take(0);
        y.lay(0, 0, 0);
        y.join(1, 2);
        s.lies("in the corner, the lesser number in the first row", y, 1, 0, 1);
        s.lies("the other one below", y, 2, 1, 0);
        TornReeds z = with("b", "c", "a");
        tell(z, 0, 1, 0);
        tell(z, 1, 1, 0);
        z.lay(2, 0, 5);
        z.join(1, 0);
        s.lies("the lesser number in the least column", z, 0, 0, 3);
        s.lies("the other one in the next", z, 1, 0, 4);
    }

    private void join() {
        s.says("Promise 16", "The best JOIN of a BIT, or of two (b NONE: of a alone), is laid:"
                + " WORTH of THE SHEET then;");
        TornReeds x = with("ab", "c;d", "e");
        x.lay(0, 5, 5);
        s.is("of a alone", x.join(1, TornReeds.NONE), 1);
        s.lies("it is laid", x, 1, 3, 5);
        s.is("with its signs", x.sheet(4, 5), 'd');
        s.is("as its own", x.whose(3, 5), 1);
        s.is("what worth tells then", x.worth(), 1);
        s.is("no other one is laid", x.place(2, 0), -1);
        s.is("the next, with the WORTH that was there", x.join(2, -1), 3);
        s.lies("by both", x, 2, 4, 6);
        s.is("what worth tells then, too", x.worth(), 3);
        x.take(1);
        x.take(2);
        s.is("of two", x.join(1, 2), 3);
        s.lies("the one is laid", x, 1, 3, 5);
        s.lies("the other one, too", x, 2, 4, 6);
        s.is("both with their signs", x.sheet(4, 6), 'e');
        s.is("what worth tells of two", x.worth(), 3);
        s.is("its FIBRES can't be told any more", x.fibre(2, true, 0, 1), -1);
        s.is("it is taken as if it were laid", x.take(2), true);
        TornReeds y = with("b", "c", "d", "e", "f", "g", "h", "i", "j", "k");
        y.lay(5, 5, 5);
        s.is("the first BIT and the last one", y.join(9, 0), 2);
        TornReeds z = with("a", "b", "c");
        z.lay(0, 1, 5);
        z.join(1, 2);
        for (int row = 2; row < 16; row++) {
            for (int column = 0; column < 32; column++) {
                s.is("nothing else is laid", z.sheet(row, column), '_');
            }
        }
    }

    private void joinOfNone() {
        s.says("Promise 16", "-1 when there are none such, or nothing lies;");
        TornReeds x = with("a", "b", "c");
        s.is("nothing lies", x.join(1, -1), -1);
        s.is("nothing lies, of two", x.join(1, 2), -1);
        tell(x, 0, 1, 1);
        tell(x, 1, 2, 2);
        tell(x, 2, 2, 2);
        x.lay(0, 5, 5);
        s.is("it lies", x.join(0, -1), -1);
        s.is("the first one lies", x.join(0, 1), -1);
        s.is("the second one lies", x.join(1, 0), -1);
        s.is("twice the same", x.join(1, 1), -1);
        s.is("twice one that lies", x.join(0, 0), -1);
        for (int b : new int[] {-2, 3, 9, 10, LEAST, GREATEST}) {
            s.is("number " + b, x.join(b, -1), -1);
            s.is("number " + b + ", then one that is", x.join(b, 1), -1);
            s.is("one that is, then number " + b, x.join(1, b), -1);
            s.is("twice the number " + b, x.join(b, b), -1);
        }
        s.is("NONE, then one that is", x.join(-1, 1), -1);
        s.is("twice NONE", x.join(-1, -1), -1);
        s.is("nothing was laid", x.place(1, 0), -1);
    }

    private void noJoin() {
        s.says("Promise 16", "-2 there is no JOIN.");
        TornReeds x = with("a", "b", "c");
        tell(x, 0, 1, 1);
        tell(x, 1, 2, 2);
        tell(x, 2, 2, 2);
        x.lay(0, 5, 5);
        s.is("of one", x.join(1, -1), -2);
        s.is("of two", x.join(1, 2), -2);
        s.is("of two, told the other way", x.join(2, 1), -2);
        s.is("it was not laid", x.place(1, 0), -1);
        s.is("nor the other one", x.place(2, 0), -1);
        s.is("what lay is worth the same", x.worth(), 0);
        for (int[] at : new int[][] {{4, 5}, {5, 4}, {5, 6}, {6, 5}}) {
            s.is("no sign of it", x.sheet(at[0], at[1]), '_');
            s.is("nobody's", x.whose(at[0], at[1]), -1);
        }
        s.is("what lay is there", x.sheet(5, 5), 'a');
        s.is("its FIBRES can be told", x.fibre(1, true, 0, 0), 2);
        s.is("then there is one", x.join(1, -1), 1);
        noJoinByWords();
    }

    /** The two could be side by side in a ROW alone, where they make no word. */
    private void noJoinByWords() {
        TornReeds x = with(",", "a", "a");
        Due.word(x, "a");
        tell(x, 0, 1, 1);
        tell(x, 1, 0, 1);
        tell(x, 2, 2, 2);
        x.lay(0, 5, 5);
        s.is("of two, by words", x.join(1, 2), -2);
        for (int row = 2; row < 9; row++) {
            for (int column = 2; column < 9; column++) {
                int sign = row == 5 && column == 5 ? ',' : '_';
                s.is("THE SHEET is as it was", x.sheet(row, column), sign);
            }
        }
        Due.word(x, "aa");
        s.is("then there is one, by another word", x.join(1, 2), 4);
    }

    private void joins() {
        s.says("Promise 17", "How many JOINS of a BIT alone there are (of any WORTH);");
        TornReeds x = with("ab", "c", "d;_e");
        x.lay(0, 5, 5);
        s.is("all about it", x.joins(1), 6);
        s.is("it is not laid", x.place(1, 0), -1);
        s.is("no sign of it", x.sheet(4, 5), '_');
        s.is("as many again", x.joins(1), 6);
        x.take(0);
        x.fibre(0, false, 0, 3);
        x.lay(0, 5, 5);
        tell(x, 1, 0, 3);
        s.is("those of lesser WORTH, too", x.joins(1), 6);
        tell(x, 1, 0, 4);
        s.is("not where it QUARRELS", x.joins(1), 4);
        Due.word(x, "abc");
        s.is("nor where it makes no word", x.joins(1), 3);
        x.take(0);
        x.lay(0, 15, 30);
        s.is("nor without THE SHEET", x.joins(1), 1);
        x.take(0);
        x.lay(0, 0, 0);
        tell(x, 1, 4, 3);
        s.is("one below, one behind, one below that", x.joins(1), 3);
        tell(x, 1, 0, 0);
        x.lay(1, 0, 2);
        Due.bit(x, 3, "c");
        s.is("by two that lie, none counted twice", x.joins(3), 3);
    }

    private void joinsOfNone() {
        s.says("Promise 17", "NONE likewise.");
        TornReeds x = with("a", "b");
        s.is("nothing lies", x.joins(1), -1);
        x.lay(0, 5, 5);
        s.is("it lies", x.joins(0), -1);
        for (int b : new int[] {-2, -1, 2, 9, 10, LEAST, GREATEST}) {
            s.is("number " + b, x.joins(b), -1);
        }
        x.take(0);
        s.is("nothing lies any more", x.joins(1), -1);
        x.lay(0, 5, 5);
        Due.word(x, "a");
        s.is("there is no JOIN", x.joins(1), 0);
    }
}
