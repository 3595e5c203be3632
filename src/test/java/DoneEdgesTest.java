/** The boundary cases of promises 9 to 13: figures put and exchanged, kinds changed, bricks told and hushed. */
public final class DoneEdgesTest {
    private static final int NONE = Run.NONE, UNKNOWN = Run.UNKNOWN, OUTSIDE = Run.OUTSIDE, STATE = Run.STATE,
        FULL = Run.FULL, LOW = Run.LOW, HIGH = Run.HIGH;
    private static final String[] PILES = {"2;l;09", "3;gm,w;190", "4;sgm,wl,s;0918"};
    private static final int[] SIZES = {3, 6, 10};

    private DoneEdgesTest() {
    }

    public static void main(String[] args) {
        Cases.run(DoneEdgesTest.class);
    }

    /** 4 7, upon it 11, after so many changes: more calls than an object is used for, as fewer can't meet the limit. */
    private static Run changed(int times) {
        return Run.of(Run.TWO).withoutLimit().often(times, "put", 0, 4).due(times, "count", 6);
    }

    @Says(under = "Promise 9", words = "A FIGURE is such a digit")
    static void p09_put_theLeastDigitAndTheGreatest() {
        Run.of(Run.TWO).due(7, "put", 0, 0).due(0, "brick", 0, 1).due(16, "put", 0, 9).due(9, "brick", 0, 1)
            .due(9, "put", 1, 0).due(18, "put", 1, 9).due(4, "count", 6);
    }

    @Says(under = "Promise 9", words = "(that is a change, too, if it was)")
    static void p09_put_theSameDigitIsAChange() {
        Run.of(Run.TWO).due(0, "count", 6).due(11, "put", 0, 4).due(1, "count", 6).due(11, "put", 0, 4)
            .due(2, "count", 6).due(2, "image");
    }

    @Says(under = "Promise 9", words = "UNKNOWN: figure")
    static void p09_unknown_beyondTheFirstFigureAndTheLast() {
        for (int wide = 2; wide <= 4; wide++) {
            Run run = Run.of(PILES[wide - 2]).refused(UNKNOWN, "put", -1, 0).refused(UNKNOWN, "put", wide, 0)
                .refused(UNKNOWN, "put", SIZES[wide - 2] - 1, 0).refused(UNKNOWN, "put", SIZES[wide - 2], 0)
                .refused(UNKNOWN, "put", LOW, 0).refused(UNKNOWN, "put", HIGH, 0).due(0, "count", 6);
            run.ask("put", 0, 5);
            run.ask("put", wide - 1, 6);
            run.due(5, "brick", 0, 1).due(6, "brick", wide - 1, 1).due(2, "count", 6);
        }
    }

    @Says(under = "Promise 9", words = "OUTSIDE: digit (0 to 9)")
    static void p09_outside_digitsBeyondTheLeastAndTheGreatest() {
        Run.busy().refused(OUTSIDE, "put", 0, -1).refused(OUTSIDE, "put", 0, 10).refused(OUTSIDE, "put", 3, LOW)
            .refused(OUTSIDE, "put", 3, HIGH).refused(OUTSIDE, "put", 0, '5');
    }

    @Says(under = "Promise 9", words = "FULL: FIGURES were changed 9999 times.")
    static void p09_full_the9999thIsDoneThe10000thIsNot() {
        changed(9998).due(12, "put", 0, 5).due(9999, "count", 6).refused(FULL, "put", 0, 6).due(5, "brick", 0, 1)
            .refused(FULL, "put", 0, 5).due(9999, "count", 6);
    }

    @Says(under = "Promise 9", words = "FULL: FIGURES were changed 9999 times.")
    static void p09_full_noMoreBehindAnImageOfFewerChangesOrAnotherPile() {
        changed(9998).due(9998, "image").due(12, "put", 0, 5).refused(FULL, "put", 0, 6).due(9998, "restore")
            .due(13, "put", 0, 6).refused(FULL, "put", 0, 7).type(Run.TWO).due(3, "pile").due(14, "put", 0, 7)
            .due(1, "count", 6);
    }

    @Says(under = "Promise 9",
        words = "UNKNOWN: figure; OUTSIDE: digit (0 to 9); FULL: FIGURES were changed 9999 times.")
    static void p09_unknownComesAheadOfOutsideAndThatAheadOfFull() {
        Run.busy().refused(UNKNOWN, "put", 4, 10).refused(UNKNOWN, "put", -1, -1);
        Run.fresh().refused(UNKNOWN, "put", 0, 10);
        changed(9999).refused(UNKNOWN, "put", 2, 5).refused(UNKNOWN, "put", 2, 10).refused(OUTSIDE, "put", 0, 10)
            .refused(OUTSIDE, "put", 1, -1).refused(FULL, "put", 1, 9);
    }

    @Says(under = "Promise 10", words = "Two FIGURES are exchanged: the TOP then.")
    static void p10_exchange_theFirstFigureAndTheLast() {
        for (int wide = 2; wide <= 4; wide++) {
            Run run = Run.of(PILES[wide - 2]);
            int first = (int) run.ask("brick", 0, 1);
            int last = (int) run.ask("brick", wide - 1, 1);
            run.ask("exchange", 0, wide - 1);
            run.due(last, "brick", 0, 1).due(first, "brick", wide - 1, 1).due(1, "count", 6);
            run.ask("exchange", wide - 1, 0);
            run.due(first, "brick", 0, 1).due(last, "brick", wide - 1, 1).due(2, "count", 6);
        }
        Run.of("2;w;47").due(18, "exchange", 0, 1).due(15, "exchange", 1, 0);
    }

    @Says(under = "Promise 10", words = "Two FIGURES are exchanged: the TOP then.")
    static void p10_exchange_likeFiguresAreAChange() {
        Run.of("2;w;33").due(9, "exchange", 0, 1).due(1, "count", 6).due(9, "exchange", 1, 0).due(2, "count", 6);
    }

    @Says(under = "Promise 10", words = "UNKNOWN: one, other, or they are the same")
    static void p10_unknown_oneBeyondTheFirstFigureAndTheLast() {
        for (int wide = 2; wide <= 4; wide++) {
            Run.of(PILES[wide - 2]).refused(UNKNOWN, "exchange", -1, 0).refused(UNKNOWN, "exchange", wide, 0)
                .refused(UNKNOWN, "exchange", LOW, 0).refused(UNKNOWN, "exchange", HIGH, 0);
        }
    }

    @Says(under = "Promise 10", words = "UNKNOWN: one, other, or they are the same")
    static void p10_unknown_otherBeyondTheFirstFigureAndTheLast() {
        for (int wide = 2; wide <= 4; wide++) {
            Run.of(PILES[wide - 2]).refused(UNKNOWN, "exchange", 0, -1).refused(UNKNOWN, "exchange", 0, wide)
                .refused(UNKNOWN, "exchange", 0, LOW).refused(UNKNOWN, "exchange", 0, HIGH);
        }
    }

    @Says(under = "Promise 10", words = "UNKNOWN: one, other, or they are the same")
    static void p10_unknown_theSame() {
        Run.busy().refused(UNKNOWN, "exchange", 0, 0).refused(UNKNOWN, "exchange", 3, 3)
            .refused(UNKNOWN, "exchange", 4, 4).refused(UNKNOWN, "exchange", -1, -1);
        Run.fresh().refused(UNKNOWN, "exchange", 0, 0);
    }

    @Says(under = "Promise 10", words = "FULL: as above.")
    static void p10_full_the9999thIsDoneThe10000thIsNot() {
        changed(9998).due(11, "exchange", 0, 1).due(7, "brick", 0, 1).due(9999, "count", 6)
            .refused(FULL, "exchange", 0, 1).due(7, "brick", 0, 1).refused(FULL, "put", 0, 1);
    }

    @Says(under = "Promise 10", words = "UNKNOWN: one, other, or they are the same; FULL: as above.")
    static void p10_unknownComesAheadOfFull() {
        changed(9999).refused(UNKNOWN, "exchange", 0, 0).refused(UNKNOWN, "exchange", 2, 0)
            .refused(UNKNOWN, "exchange", 0, -1).refused(FULL, "exchange", 1, 0);
    }

    @Says(under = "Promise 11", words = "A BRICK above the lowest row is of another KIND: of which it was.")
    static void p11_change_theLeastKindAndTheGreatest() {
        Run.of("2;g;99").due(1, "change", 2, 0).due(18, "count", 2).due(0, "change", 2, 4).due(7, "count", 2)
            .due(4, "change", 2, 3).due(27, "count", 2).due(3, "change", 2, 1).due(0, "count", 2);
    }

    @Says(under = "Promise 11", words = "A BRICK above the lowest row is of another KIND: of which it was.")
    static void p11_change_toTheKindThatItIs() {
        Run run = Run.busy();
        long before = run.ask("digest");
        run.due(3, "change", 4, 3).due(before, "digest").due(3, "change", 4, 3).due(before, "digest");
    }

    @Says(under = "Promise 11", words = "A BRICK above the lowest row is of another KIND: of which it was.")
    static void p11_change_figuresAndWhatIsToldAndSeenStay() {
        Run.of(Run.TWO).due(1, "tell", 2, 18).due(1, "see", 2, 9, 9, 18).due(0, "change", 2, 1).due(18, "brick", 2, 4)
            .due(0, "left").due(1, "brick", 2, 5).due(0, "count", 6).due(3, "count", 2).due(1, "change", 2, 3)
            .due(5, "left"); // 0 and 18 can't be; 5 8, 6 6, 7 4, 8 2, 9 0
    }

    @Says(under = "Promise 11", words = "UNKNOWN: brick (a FIGURE, too)")
    static void p11_unknown_theLastFigureAndOneBeyondTheTop() {
        for (int i = 0; i < PILES.length; i++) {
            int wide = i + 2;
            Run run = Run.of(PILES[i]).refused(UNKNOWN, "change", wide - 1, 0).refused(UNKNOWN, "change", SIZES[i], 0)
                .refused(UNKNOWN, "change", 0, 0).refused(UNKNOWN, "change", -1, 0).refused(UNKNOWN, "change", LOW, 0)
                .refused(UNKNOWN, "change", HIGH, 0);
            run.ask("change", wide, 2);
            run.ask("change", SIZES[i] - 1, 2);
            run.due(2, "brick", wide, 0).due(2, "brick", SIZES[i] - 1, 0);
        }
    }

    @Says(under = "Promise 11", words = "OUTSIDE: kind (0 to 4).")
    static void p11_outside_kindsBeyondTheLeastAndTheGreatest() {
        Run.busy().refused(OUTSIDE, "change", 4, -1).refused(OUTSIDE, "change", 4, 5)
            .refused(OUTSIDE, "change", 9, LOW).refused(OUTSIDE, "change", 9, HIGH).refused(OUTSIDE, "change", 9, 's');
    }

    @Says(under = "Promise 11", words = "UNKNOWN: brick (a FIGURE, too); OUTSIDE: kind (0 to 4).")
    static void p11_unknownComesAheadOfOutside() {
        Run.busy().refused(UNKNOWN, "change", 3, 5).refused(UNKNOWN, "change", 10, -1);
        Run.fresh().refused(UNKNOWN, "change", 2, 5);
    }

    @Says(under = "Promise 12", words = "It is TOLD what a BRICK is (it may have been TOLD otherwise): LEFT.")
    static void p12_tell_otherwise() {
        Run.of(Run.TWO).due(1, "tell", 2, 18).due(1, "count", 4).due(2, "tell", 2, 17).due(1, "count", 4)
            .due(2, "tell", 2, 17).due(1, "count", 4).due(17, "brick", 2, 4);
    }

    @Says(under = "Promise 12", words = "It is TOLD what a BRICK is (it may have been TOLD otherwise): LEFT.")
    static void p12_tell_allOfThem() {
        Run.of(Run.TWO).due(10, "tell", 0, 3).due(1, "tell", 1, 9).due(1, "tell", 2, 12).due(3, "count", 4)
            .due(0, "tell", 2, 13).due(3, "count", 4);
        int[] great = {9, 0, 7, 5, 18, 7, 9, 18, 16, 52};
        Run four = Run.of(Run.FOUR);
        for (int brick = 0; brick < great.length; brick++) {
            four.ask("tell", brick, great[brick]);
        }
        four.due(1, "left").due(10, "count", 4).due(10, "count", 5).due(0, "tell", 0, 8).due(10, "count", 4)
            .due(9, "count", 5);
    }

    @Says(under = "Promise 12", words = "It is TOLD what a BRICK is (it may have been TOLD otherwise): LEFT.")
    static void p12_tell_whatNoDigitIs() {
        Run.of(Run.TWO).due(10, "tell", 0, 9).due(0, "tell", 0, 10).due(10, "tell", 0, 0).due(0, "tell", 0, 999);
    }

    @Says(under = "Promise 12", words = "UNKNOWN; OUTSIDE: number (0 to 999).")
    static void p12_unknown_bricksBeyondTheLeastAndTheGreatest() {
        for (int i = 0; i < PILES.length; i++) {
            int all = (int) Math.pow(10, i + 2);
            Run.of(PILES[i]).refused(UNKNOWN, "tell", -1, 0).refused(UNKNOWN, "tell", SIZES[i], 0)
                .refused(UNKNOWN, "tell", LOW, 0).refused(UNKNOWN, "tell", HIGH, 0).due(all / 10, "tell", 0, 0)
                .due(0, "tell", SIZES[i] - 1, 999).due(2, "count", 4);
        }
    }

    @Says(under = "Promise 12", words = "UNKNOWN; OUTSIDE: number (0 to 999).")
    static void p12_outside_numbersBeyondTheLeastAndTheGreatest() {
        Run.of(Run.TWO).due(1, "tell", 2, 0).due(0, "brick", 2, 4).due(0, "tell", 2, 999).due(999, "brick", 2, 4)
            .refused(OUTSIDE, "tell", 2, -1).refused(OUTSIDE, "tell", 2, 1000).refused(OUTSIDE, "tell", 2, LOW)
            .refused(OUTSIDE, "tell", 2, HIGH).due(999, "brick", 2, 4);
        Run.busy().refused(OUTSIDE, "tell", 1, -1).refused(OUTSIDE, "tell", 1, 1000).due(NONE, "brick", 1, 4);
    }

    @Says(under = "Promise 12", words = "UNKNOWN; OUTSIDE: number (0 to 999).")
    static void p12_unknownComesAheadOfOutside() {
        Run.busy().refused(UNKNOWN, "tell", 10, 1000).refused(UNKNOWN, "tell", -1, -1);
        Run.fresh().refused(UNKNOWN, "tell", 0, 1000);
    }

    @Says(under = "Promise 13", words = "Nothing is TOLD of a BRICK any more: LEFT.")
    static void p13_hush_fromAllToldToNothingTold() {
        Run.of(Run.TWO).due(10, "tell", 0, 4).due(1, "tell", 1, 7).due(1, "tell", 2, 11).due(1, "hush", 0)
            .due(8, "hush", 1).due(100, "hush", 2).due(0, "count", 4).due(100, "left");
    }

    @Says(under = "Promise 13", words = "Nothing is TOLD of a BRICK any more: LEFT.")
    static void p13_hush_whatWasToldAsNought() {
        Run.of(Run.TWO).due(10, "tell", 0, 0).due(100, "hush", 0).refused(STATE, "hush", 0);
    }

    @Says(under = "Promise 13", words = "Nothing is TOLD of a BRICK any more: LEFT.")
    static void p13_hush_whatNoneFits() {
        Run.of(Run.TWO).due(0, "tell", 0, 10).due(0, "tell", 2, 999).due(0, "hush", 0).due(100, "hush", 2);
    }

    @Says(under = "Promise 13", words = "UNKNOWN; STATE: nothing was.")
    static void p13_unknown_bricksBeyondTheLeastAndTheGreatest() {
        for (int i = 0; i < PILES.length; i++) {
            int all = (int) Math.pow(10, i + 2);
            Run.of(PILES[i]).due(all / 10, "tell", 0, 0).due(0, "tell", SIZES[i] - 1, 999)
                .refused(UNKNOWN, "hush", -1).refused(UNKNOWN, "hush", SIZES[i]).refused(UNKNOWN, "hush", LOW)
                .refused(UNKNOWN, "hush", HIGH).due(all / 10, "hush", SIZES[i] - 1).due(all, "hush", 0);
        }
    }

    @Says(under = "Promise 13", words = "UNKNOWN; STATE: nothing was.")
    static void p13_state_neverToldOrHushedBefore() {
        Run.of(Run.TWO).refused(STATE, "hush", 0).refused(STATE, "hush", 2).due(10, "tell", 0, 4)
            .refused(STATE, "hush", 1).due(100, "hush", 0).refused(STATE, "hush", 0);
        Run.busy().refused(STATE, "hush", 1).refused(STATE, "hush", 8);
    }

    @Says(under = "Promise 13", words = "UNKNOWN; STATE: nothing was.")
    static void p13_unknownComesAheadOfState() {
        Run.of(Run.TWO).refused(UNKNOWN, "hush", 3).refused(UNKNOWN, "hush", -1);
        Run.fresh().refused(UNKNOWN, "hush", 0);
    }
}
