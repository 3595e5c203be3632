/** The boundary cases of promises 14 to 20: what the figures would do, and what fits all that is told. */
public final class WouldEdgesTest {
    private static final int NONE = Run.NONE, UNKNOWN = Run.UNKNOWN, OUTSIDE = Run.OUTSIDE, STATE = Run.STATE,
        LOW = Run.LOW, HIGH = Run.HIGH;
    private static final String[] PILES = {"2;l;09", "3;gm,w;190", "4;sgm,wl,s;0918"};
    private static final int[] SIZES = {3, 6, 10};
    private static final int[] ROWS = {100, 1000, 10000};

    private WouldEdgesTest() {
    }

    public static void main(String[] args) {
        Cases.run(WouldEdgesTest.class);
    }

    /** 3 9, upon it 12, all three of them told. */
    private static Run allTold() {
        Run run = Run.of("2;s;00");
        run.ask("tell", 0, 3);
        run.ask("tell", 1, 9);
        run.ask("tell", 2, 12);
        return run;
    }

    /** Two bricks are told, by which no figures are left. */
    private static Run noneFitting() {
        Run run = Run.of("2;s;47");
        run.ask("tell", 0, 3);
        run.ask("tell", 2, 13);
        return run;
    }

    @Says(under = "Promise 14", words = "SWING; NONE.")
    static void p14_none_aFigureThatIs9() {
        Run.of("2;s;89").due(1001, "swing", 0).due(NONE, "swing", 1).due(18, "put", 0, 9).due(NONE, "swing", 0)
            .due(9, "put", 1, 0).due(1001, "swing", 1).due(9, "exchange", 0, 1).due(1001, "swing", 0)
            .due(NONE, "swing", 1);
        Run nines = Run.of("4;www,ww,w;9999");
        for (int figure = 0; figure < 4; figure++) {
            nines.due(NONE, "swing", figure);
        }
    }

    @Says(under = "Promise 14", words = "SWING; NONE.")
    static void p14_swing_mostAndLeastAndNotAtAll() {
        Run.of("4;www,ww,w;0000").due(1008, "swing", 0).due(1012, "swing", 1).due(1006, "swing", 2)
            .due(1001, "swing", 3);
        Run.of("2;l;17").due(992, "swing", 0).due(991, "swing", 1);
        Run.of("2;m;08").due(1000, "swing", 0).due(1001, "swing", 1);
        Run.of("2;g;08").due(999, "swing", 0).due(1001, "swing", 1);
    }

    @Says(under = "Promise 14", words = "UNKNOWN: figure.")
    static void p14_unknown_beyondTheFirstFigureAndTheLast() {
        for (int wide = 2; wide <= 4; wide++) {
            Run run = Run.of(PILES[wide - 2]).refused(UNKNOWN, "swing", -1).refused(UNKNOWN, "swing", wide)
                .refused(UNKNOWN, "swing", SIZES[wide - 2] - 1).refused(UNKNOWN, "swing", SIZES[wide - 2])
                .refused(UNKNOWN, "swing", LOW).refused(UNKNOWN, "swing", HIGH);
            run.ask("put", 0, 9);
            run.ask("put", wide - 1, 9);
            run.due(NONE, "swing", 0).due(NONE, "swing", wide - 1);
        }
        Run.fresh().refused(UNKNOWN, "swing", 0);
    }

    @Says(under = "Promise 15", words = "ORDER: what = 0 how much, 1 the FIGURES.")
    static void p15_order_figuresThatAreAllAlike() {
        Run.of("4;sss,ss,s;0000").due(0, "order", 0).due(0, "order", 1);
        Run.of("4;ggg,gg,g;9999").due(0, "order", 0).due(9999, "order", 1);
        Run.of("4;www,ww,w;9999").due(243, "order", 0).due(9999, "order", 1);
    }

    @Says(under = "Promise 15", words = "ORDER: what = 0 how much, 1 the FIGURES.")
    static void p15_order_noughtsAhead() {
        Run.of("2;s;90").due(9, "order", 0).due(9, "order", 1);
        Run.of("3;ss,s;100").due(2, "order", 0).due(10, "order", 1);
        Run.of("4;mmm,mm,m;9000").due(9, "order", 0).due(9, "order", 1);
    }

    @Says(under = "Promise 15", words = "OUTSIDE; STATE: no PILE.")
    static void p15_outside_whatBeyondTheLeastAndTheGreatest() {
        Run.busy().refused(OUTSIDE, "order", -1).refused(OUTSIDE, "order", 2).refused(OUTSIDE, "order", LOW)
            .refused(OUTSIDE, "order", HIGH);
    }

    @Says(under = "Promise 15", words = "OUTSIDE; STATE: no PILE.")
    static void p15_state_noPile() {
        Run.page(Run.TWO).refused(STATE, "order", 0).refused(STATE, "order", 1).due(3, "pile").due(11, "order", 0);
    }

    @Says(under = "Promise 15", words = "OUTSIDE; STATE: no PILE.")
    static void p15_outsideComesAheadOfState() {
        Run.fresh().refused(OUTSIDE, "order", -1).refused(OUTSIDE, "order", 2);
    }

    @Says(under = "Promise 16", words = "NEED: what = 0 how many, 1 the FIGURES; NONE.")
    static void p16_need_noFigureAndAllOfThem() {
        Run.of(Run.TWO).due(0, "need", 11, 0).due(47, "need", 11, 1).due(2, "need", 0, 0).due(0, "need", 0, 1)
            .due(2, "need", 18, 0).due(99, "need", 18, 1);
        Run.of("4;www,ww,w;0000").due(4, "need", 243, 0).due(9999, "need", 243, 1).due(0, "need", 0, 0)
            .due(0, "need", 0, 1);
    }

    @Says(under = "Promise 16", words = "NEED: what = 0 how many, 1 the FIGURES; NONE.")
    static void p16_none_oneAboveTheGreatestTop() {
        Run.of(Run.TWO).due(2, "need", 18, 0).due(NONE, "need", 19, 0).due(NONE, "need", 19, 1);
        Run.of("2;g;00").due(9, "need", 9, 1).due(NONE, "need", 10, 1);
        Run.of("2;l;00").due(9, "need", 9, 1).due(NONE, "need", 10, 0);
        Run.of("4;www,ww,w;9999").due(0, "need", 243, 0).due(NONE, "need", 244, 0).due(NONE, "need", 244, 1);
    }

    @Says(under = "Promise 16", words = "OUTSIDE: number (0 to 999), what")
    static void p16_outside_numbersBeyondTheLeastAndTheGreatest() {
        Run.of(Run.TWO).due(2, "need", 0, 0).due(NONE, "need", 999, 0).refused(OUTSIDE, "need", -1, 0)
            .refused(OUTSIDE, "need", 1000, 0).refused(OUTSIDE, "need", LOW, 1).refused(OUTSIDE, "need", HIGH, 1)
            .due(2, "count", 10);
    }

    @Says(under = "Promise 16", words = "OUTSIDE: number (0 to 999), what")
    static void p16_outside_whatBeyondTheLeastAndTheGreatest() {
        Run.busy().refused(OUTSIDE, "need", 0, -1).refused(OUTSIDE, "need", 0, 2).refused(OUTSIDE, "need", 999, LOW)
            .refused(OUTSIDE, "need", 999, HIGH);
    }

    @Says(under = "Promise 16", words = "STATE: no PILE, or need() was done 20 times.")
    static void p16_state_noPile() {
        Run.page(Run.TWO).refused(STATE, "need", 0, 0).refused(STATE, "need", 999, 1).due(3, "pile")
            .due(2, "need", 0, 0).due(1, "count", 10);
    }

    @Says(under = "Promise 16", words = "STATE: no PILE, or need() was done 20 times.")
    static void p16_state_the20thIsDoneThe21stIsNot() {
        Run.of(Run.TWO).often(19, "need", 3, 0).due(19, "count", 10).due(2, "need", 18, 0).due(20, "count", 10)
            .refused(STATE, "need", 18, 0).refused(STATE, "need", 11, 1).due(20, "count", 10);
    }

    @Says(under = "Promise 16", words = "STATE: no PILE, or need() was done 20 times.")
    static void p16_state_thoseThatFoundNoneWereDoneThoseRefusedWereNot() {
        Run.of(Run.TWO).often(19, "need", 999, 1).often(30, "need", 1000, 0).often(30, "need", 0, 2)
            .due(19, "count", 10).due(NONE, "need", 19, 0).refused(STATE, "need", 19, 0);
    }

    /** The limit is the object's: neither an image nor another pile sets it back. */
    @Says(under = "Promise 16", words = "STATE: no PILE, or need() was done 20 times.")
    static void p16_state_evenBehindARestoreAndAnotherPile() {
        Run.of(Run.TWO).due(0, "image").often(20, "need", 3, 0).due(0, "restore").refused(STATE, "need", 3, 0)
            .type(Run.THREE).due(6, "pile").due(20, "count", 10).refused(STATE, "need", 3, 0);
    }

    @Says(under = "Promise 16",
        words = "OUTSIDE: number (0 to 999), what; STATE: no PILE, or need() was done 20 times.")
    static void p16_outsideComesAheadOfState() {
        Run.fresh().refused(OUTSIDE, "need", -1, 0).refused(OUTSIDE, "need", 1000, 0).refused(OUTSIDE, "need", 0, 2);
        Run.of(Run.TWO).often(20, "need", 3, 0).refused(OUTSIDE, "need", -1, 0).refused(OUTSIDE, "need", 1000, 0)
            .refused(OUTSIDE, "need", 0, -1).refused(OUTSIDE, "need", 0, 2).refused(STATE, "need", 0, 0);
    }

    @Says(under = "Promise 17", words = "LEFT.")
    static void p17_left_nothingToldAndAllTold() {
        for (int i = 0; i < PILES.length; i++) {
            Run run = Run.of(PILES[i]).due(ROWS[i], "left");
            for (int brick = 0; brick < SIZES[i]; brick++) {
                run.ask("tell", brick, (int) run.ask("brick", brick, 1));
            }
            run.due(1, "left").due(SIZES[i], "count", 4).due(SIZES[i], "count", 5);
        }
    }

    @Says(under = "Promise 17", words = "LEFT.")
    static void p17_left_noneFits() {
        noneFitting().due(0, "left");
        allTold().due(1, "left").due(0, "tell", 2, 11).due(0, "left");
    }

    @Says(under = "Promise 17", words = "STATE: no PILE.")
    static void p17_state_noPile() {
        Run.page(Run.TWO).refused(STATE, "left").due(3, "pile").due(100, "left");
    }

    @Says(under = "Promise 18", words = "The so-manieth ROW that FITS (from 0, by numbers), as a number")
    static void p18_fits_theFirstAndTheLast() {
        for (int i = 0; i < PILES.length; i++) {
            Run.of(PILES[i]).due(0, "fits", 0).due(ROWS[i] - 1, "fits", ROWS[i] - 1);
        }
        Run.of("2;s;00").due(9, "tell", 2, 10).due(19, "fits", 0).due(91, "fits", 8);
        allTold().due(39, "fits", 0);
    }

    @Says(under = "Promise 18", words = "NONE: there are not so many.")
    static void p18_none_oneBehindTheLast() {
        for (int i = 0; i < PILES.length; i++) {
            Run.of(PILES[i]).due(NONE, "fits", ROWS[i]).due(NONE, "fits", HIGH);
        }
        Run.of("2;s;00").due(9, "tell", 2, 10).due(NONE, "fits", 9);
        allTold().due(NONE, "fits", 1).due(NONE, "fits", HIGH);
        noneFitting().due(NONE, "fits", 0).due(NONE, "fits", HIGH);
    }

    @Says(under = "Promise 18", words = "OUTSIDE: number (0 at least)")
    static void p18_outside_numbersBelow() {
        Run.busy().refused(OUTSIDE, "fits", -1).refused(OUTSIDE, "fits", LOW);
    }

    @Says(under = "Promise 18", words = "STATE: no PILE.")
    static void p18_state_noPile() {
        Run.page(Run.TWO).refused(STATE, "fits", 0).refused(STATE, "fits", HIGH).due(3, "pile").due(0, "fits", 0);
    }

    @Says(under = "Promise 18", words = "OUTSIDE: number (0 at least); STATE: no PILE.")
    static void p18_outsideComesAheadOfState() {
        Run.fresh().refused(OUTSIDE, "fits", -1).refused(OUTSIDE, "fits", LOW).refused(STATE, "fits", 0);
    }

    @Says(under = "Promise 19", words = "LOOK; NONE.")
    static void p19_none_allTold() {
        allTold().due(NONE, "look").due(0, "tell", 2, 11).due(NONE, "look");
    }

    @Says(under = "Promise 19", words = "LOOK; NONE.")
    static void p19_none_noneFits() {
        noneFitting().due(NONE, "look").due(0, "tell", 1, 10).due(NONE, "look");
    }

    @Says(under = "Promise 19", words = "LOOK; NONE.")
    static void p19_look_allButOneTold() {
        allTold().due(1, "hush", 0).due(0, "look").due(1, "tell", 0, 3).due(1, "hush", 2).due(2, "look")
            .due(1, "tell", 2, 12).due(1, "hush", 1).due(1, "look");
    }

    @Says(under = "Promise 19", words = "LOOK; NONE.")
    static void p19_look_nothingTold() {
        Run.of("2;s;00").due(0, "look"); // 10 at worst, each of them
        Run.of("2;w;00").due(2, "look"); // 5 at worst
        Run.of("4;www,ww,w;0000").due(9, "look");
    }

    @Says(under = "Promise 19", words = "LOOK; NONE.")
    static void p19_look_bricksThatAreNoughtForSureTellNothing() {
        Run.of("3;gs,s;000").due(100, "tell", 0, 5).due(10, "tell", 1, 5).due(2, "look"); // 3 is nought ten times
    }

    @Says(under = "Promise 19", words = "LOOK; NONE.")
    static void p19_look_aTopThatIsTheGreatestForSureIsLikeTheOthers() {
        Run run = Run.of("4;www,ww,w;0000");
        for (int figure = 0; figure < 4; figure++) {
            run.ask("tell", figure, 9);
        }
        run.due(1, "left").due(4, "look");
    }

    /** All others are known by now: where one that is as great as can be were not counted, it would be looked at. */
    @Says(under = "Promise 19", words = "LOOK; NONE.")
    static void p19_look_theGreatestOfEachRowIsLikeTheOthers() {
        Run.of("3;sg,s;000").due(100, "tell", 2, 0).due(10, "tell", 4, 9).due(1, "tell", 3, 17)
            .due(890, "fits", 0).due(0, "look"); // figure 1 is 9
        Run.of("3;ww,w;000").due(100, "tell", 0, 9).due(10, "tell", 1, 9).due(2, "look") // 3 is 27 ten times
            .due(1, "tell", 4, 27).due(2, "look").due(1, "tell", 2, 9).due(3, "look").due(1, "tell", 3, 27)
            .due(5, "look");
        Run.of("4;www,ww,w;0000").due(1000, "tell", 0, 9).due(100, "tell", 1, 9).due(10, "tell", 2, 9)
            .due(1, "tell", 6, 27).due(3, "look");
    }

    @Says(under = "Promise 19", words = "LOOK; NONE.")
    static void p19_look_thoseBeforeMakeNoDifference() {
        for (String text : PILES) {
            Run often = Run.of(text);
            int size = (int) often.ask("count", 1);
            for (int told = 0; told <= size; told++) {
                Run once = Run.of(text);
                for (int brick = 0; brick < size; brick++) {
                    if (often.ask("brick", brick, 4) != NONE) {
                        once.ask("tell", brick, (int) often.ask("brick", brick, 4));
                    }
                }
                int next = (int) once.ask("look");
                often.due(next, "look");
                often.ask("tell", next, (int) often.ask("brick", Math.max(next, 0), 1));
            }
            often.due(NONE, "look").due(size, "count", 4);
        }
        Run.of("2;w;00").due(2, "look").due(5, "tell", 2, 9).due(0, "look").due(100, "hush", 2).due(2, "look");
    }

    @Says(under = "Promise 19", words = "STATE: no PILE, or look() was done 20 times.")
    static void p19_state_noPile() {
        Run.page("2;w;00").refused(STATE, "look").due(3, "pile").due(2, "look").due(1, "count", 11);
    }

    @Says(under = "Promise 19", words = "STATE: no PILE, or look() was done 20 times.")
    static void p19_state_the20thIsDoneThe21stIsNot() {
        Run.of("2;w;00").often(19, "look").due(19, "count", 11).due(2, "look").due(20, "count", 11)
            .refused(STATE, "look").refused(STATE, "look").due(20, "count", 11);
    }

    @Says(under = "Promise 19", words = "STATE: no PILE, or look() was done 20 times.")
    static void p19_state_thoseThatFoundNoneWereDoneThoseRefusedWereNot() {
        Run.fresh().often(30, "look").due(0, "count", 11).type(Run.TWO).due(3, "pile").due(0, "tell", 2, 999)
            .often(19, "look").due(19, "count", 11).due(NONE, "look").refused(STATE, "look").due(100, "hush", 2)
            .refused(STATE, "look");
    }

    /** The limit is the object's: neither an image nor another pile sets it back. */
    @Says(under = "Promise 19", words = "STATE: no PILE, or look() was done 20 times.")
    static void p19_state_evenBehindARestoreAndAnotherPile() {
        Run.of(Run.TWO).due(0, "image").often(20, "look").due(0, "restore").refused(STATE, "look").type(Run.THREE)
            .due(6, "pile").due(20, "count", 11).refused(STATE, "look");
    }

    @Says(under = "Promise 19", words = "STATE: no PILE, or look() was done 20 times.")
    static void p19_state_ofLookAloneNotOfNeed() {
        Run.of("2;w;00").often(20, "look").due(0, "need", 0, 0);
        Run.of("2;w;00").often(20, "need", 0, 0).due(2, "look");
    }

    @Says(under = "Promise 20", words = "ODDS: what = 0 above, 1 below.")
    static void p20_odds_neverAndAlways() {
        allTold().due(1, "odds", 0, 3, 0).due(1, "odds", 0, 3, 1).due(0, "odds", 0, 4, 0).due(1, "odds", 0, 4, 1);
        Run.of(Run.TWO).due(8, "tell", 2, 11).due(0, "odds", 0, 1, 0).due(1, "odds", 0, 1, 1)
            .due(1, "odds", 0, 2, 0).due(8, "odds", 0, 2, 1);
    }

    @Says(under = "Promise 20", words = "ODDS: what = 0 above, 1 below.")
    static void p20_odds_inLowestTerms() {
        // the middle one counts twice: 003, 102, 201, 300, 011, 110
        Run.of("3;ss,s;000").due(6, "tell", 5, 3).due(2, "odds", 1, 0, 0).due(3, "odds", 1, 0, 1)
            .due(1, "odds", 1, 1, 0).due(3, "odds", 1, 1, 1).due(1, "odds", 0, 0, 0).due(3, "odds", 0, 0, 1)
            .due(1, "odds", 0, 2, 0).due(6, "odds", 0, 2, 1);
    }

    @Says(under = "Promise 20", words = "ODDS: what = 0 above, 1 below.")
    static void p20_odds_nothingTold() {
        for (int wide = 2; wide <= 4; wide++) {
            Run.of(PILES[wide - 2]).due(1, "odds", 0, 0, 0).due(10, "odds", 0, 0, 1)
                .due(1, "odds", wide - 1, 9, 0).due(10, "odds", wide - 1, 9, 1);
        }
    }

    @Says(under = "Promise 20", words = "ODDS: what = 0 above, 1 below.")
    static void p20_odds_noneFits() {
        Run run = noneFitting();
        for (int digit = 0; digit <= 9; digit++) {
            run.due(0, "odds", 0, digit, 0).due(1, "odds", 0, digit, 1);
        }
    }

    @Says(under = "Promise 20", words = "UNKNOWN: figure")
    static void p20_unknown_beyondTheFirstFigureAndTheLast() {
        for (int wide = 2; wide <= 4; wide++) {
            Run.of(PILES[wide - 2]).refused(UNKNOWN, "odds", -1, 0, 0).refused(UNKNOWN, "odds", wide, 0, 0)
                .refused(UNKNOWN, "odds", SIZES[wide - 2] - 1, 0, 0).refused(UNKNOWN, "odds", LOW, 0, 0)
                .refused(UNKNOWN, "odds", HIGH, 0, 0);
        }
        Run.fresh().refused(UNKNOWN, "odds", 0, 0, 0).refused(UNKNOWN, "odds", 0, 0, 1);
    }

    @Says(under = "Promise 20", words = "OUTSIDE: digit (0 to 9), what.")
    static void p20_outside_digitsBeyondTheLeastAndTheGreatest() {
        Run.busy().refused(OUTSIDE, "odds", 0, -1, 0).refused(OUTSIDE, "odds", 3, 10, 0)
            .refused(OUTSIDE, "odds", 3, LOW, 1).refused(OUTSIDE, "odds", 3, HIGH, 1);
    }

    @Says(under = "Promise 20", words = "OUTSIDE: digit (0 to 9), what.")
    static void p20_outside_whatBeyondTheLeastAndTheGreatest() {
        Run.busy().refused(OUTSIDE, "odds", 0, 0, -1).refused(OUTSIDE, "odds", 0, 9, 2)
            .refused(OUTSIDE, "odds", 3, 0, LOW).refused(OUTSIDE, "odds", 3, 9, HIGH);
        noneFitting().refused(OUTSIDE, "odds", 0, 0, 2);
    }

    @Says(under = "Promise 20", words = "UNKNOWN: figure; OUTSIDE: digit (0 to 9), what.")
    static void p20_unknownComesAheadOfOutside() {
        Run.busy().refused(UNKNOWN, "odds", 4, 10, 0).refused(UNKNOWN, "odds", -1, 0, 2)
            .refused(UNKNOWN, "odds", 10, -1, -1);
        Run.fresh().refused(UNKNOWN, "odds", 0, 10, 2);
    }
}
