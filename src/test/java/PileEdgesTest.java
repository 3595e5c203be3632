/** The boundary cases of promises 1 to 8: the page, the pile that is read from it, its bricks. */
public final class PileEdgesTest {
    private static final int NONE = Run.NONE, UNKNOWN = Run.UNKNOWN, OUTSIDE = Run.OUTSIDE, STATE = Run.STATE,
        FULL = Run.FULL, LOW = Run.LOW, HIGH = Run.HIGH;
    private static final String[] PILES = {"2;l;09", "3;gm,w;190", "4;sgm,wl,s;0918"};
    private static final int[] SIZES = {3, 6, 10};

    private PileEdgesTest() {
    }

    public static void main(String[] args) {
        Cases.run(PileEdgesTest.class);
    }

    @Says(under = "Promise 1", words = "No PILE.")
    static void p01_aNewObject_noBrickHasANumber() {
        Run.fresh().refused(UNKNOWN, "brick", 0, 0).refused(UNKNOWN, "as", 0, 0).refused(UNKNOWN, "makes", 0, 0, 0)
            .refused(UNKNOWN, "put", 0, 0).refused(UNKNOWN, "exchange", 0, 1).refused(UNKNOWN, "change", 0, 0)
            .refused(UNKNOWN, "tell", 0, 0).refused(UNKNOWN, "hush", 0).refused(UNKNOWN, "swing", 0)
            .refused(UNKNOWN, "odds", 0, 0, 0).refused(UNKNOWN, "see", 0, 0, 0, 0);
    }

    @Says(under = "Promise 1", words = "No PILE.")
    static void p01_aNewObject_noneIsThereToBeSearched() {
        Run.fresh().refused(STATE, "pile").refused(STATE, "order", 0).refused(STATE, "need", 0, 0)
            .refused(STATE, "left").refused(STATE, "fits", 0).refused(STATE, "look").refused(STATE, "drawn", 1, 0, 0)
            .refused(STATE, "image").refused(STATE, "restore");
    }

    @Says(under = "Promise 1", words = "No PILE.")
    static void p01_aNewObject_nothingIsCounted() {
        Run run = Run.fresh().due(0, "fault").due(0, "blank").due(0, "forget");
        for (int what = 0; what <= 11; what++) {
            run.due(what == 2 ? NONE : 0, "count", what);
        }
    }

    @Says(under = "Promise 2", words = "OUTSIDE: code (1 to 126)")
    static void p02_outside_theLeastCodeAndTheGreatest() {
        Run.fresh().due(1, "letter", 1).due(2, "letter", 126);
    }

    @Says(under = "Promise 2", words = "OUTSIDE: code (1 to 126)")
    static void p02_outside_codesBelow() {
        Run.busy().refused(OUTSIDE, "letter", 0).refused(OUTSIDE, "letter", -1).refused(OUTSIDE, "letter", LOW);
    }

    @Says(under = "Promise 2", words = "OUTSIDE: code (1 to 126)")
    static void p02_outside_codesAbove() {
        Run.busy().refused(OUTSIDE, "letter", 127).refused(OUTSIDE, "letter", HIGH)
            .refused(OUTSIDE, "letter", 65536 + '2'); // a char would be the digit
    }

    @Says(under = "Promise 2", words = "FULL: above 18.")
    static void p02_full_the18thComesThe19thDoesNot() {
        Run.of(Run.FOUR).often(17, "letter", 's').due(18, "letter", 126).refused(FULL, "letter", 's')
            .refused(FULL, "letter", 1).due(18, "count", 8).due(18, "blank").due(1, "letter", 's');
    }

    @Says(under = "Promise 2", words = "OUTSIDE: code (1 to 126); FULL: above 18.")
    static void p02_outsideComesAheadOfFull() {
        Run.fresh().often(18, "letter", '2').refused(OUTSIDE, "letter", 0).refused(OUTSIDE, "letter", 127)
            .refused(FULL, "letter", 126);
    }

    @Says(under = "Promise 3", words = "THE PAGE is empty: how many letters it had.")
    static void p03_blank_anEmptyPage() {
        Run.fresh().due(0, "blank").due(0, "blank").due(0, "count", 8).due(0, "fault");
    }

    @Says(under = "Promise 3", words = "THE PAGE is empty: how many letters it had.")
    static void p03_blank_aFullPage() {
        Run.fresh().often(18, "letter", 1).due(18, "blank").due(0, "count", 8).type(Run.TWO).due(3, "pile");
    }

    @Says(under = "Promise 3", words = "THE PAGE is empty: how many letters it had.")
    static void p03_blank_thePileStays() {
        Run run = Run.of(Run.TWO);
        long read = run.ask("digest");
        run.type("3").due(1, "blank").due(read, "digest");
    }

    @Says(under = "Promise 4", words = "The place (from 0) of the first letter of THE PAGE that no PILE has there")
    static void p04_fault_eachCodeAtEachPlace() {
        for (String pile : PILES) {
            for (int place = 0; place <= pile.length(); place++) {
                String ahead = pile.substring(0, place);
                String taken = place == pile.length() ? "" : takenFor(pile.charAt(place), place);
                for (int code = 1; code <= 126; code++) {
                    Run.page(ahead).due(place + 1, "letter", code)
                        .due(taken.indexOf(code) >= 0 ? place + 1 : place, "fault");
                }
            }
        }
    }

    private static String takenFor(char letter, int place) {
        if (place == 0) {
            return "234";
        }
        if (letter == ';' || letter == ',') {
            return String.valueOf(letter);
        }
        return Character.isDigit(letter) ? "0123456789" : "sgmwl";
    }

    @Says(under = "Promise 4", words = "behind those ahead of it")
    static void p04_fault_theWidthTellsWhatComesBehind() {
        Run.page("2;ss").due(3, "fault");
        Run.page("3;ss").due(4, "fault");
        Run.page("3;sss").due(4, "fault");
        Run.page("4;sss").due(5, "fault");
        Run.page("2;s;123").due(6, "fault");
        Run.page("3;ss,s;123").due(10, "fault");
    }

    @Says(under = "Promise 4", words = "behind those ahead of it")
    static void p04_fault_theFirstOfSeveral() {
        Run.page("5;x;").due(0, "fault");
        Run.page("2;x;1x;x").due(2, "fault");
        Run.page("4;sss;ss;s;12345").due(5, "fault");
    }

    @Says(under = "Promise 4", words = "how many letters it has, if there is none")
    static void p04_fault_noneInAnyBeginning() {
        for (String pile : PILES) {
            for (int many = 0; many <= pile.length(); many++) {
                Run.page(pile.substring(0, many)).due(many, "fault");
            }
        }
    }

    @Says(under = "Promise 4", words = "how many letters it has, if there is none")
    static void p04_fault_aFullPageHasOneAlways() {
        Run.page("4;sss,ss,s;123456789").due(18, "count", 8).due(15, "fault");
        Run.fresh().often(18, "letter", 126).due(0, "fault");
    }

    @Says(under = "Promise 5", words = "how many BRICKS, the FIGURES with them; THE PAGE is empty then")
    static void p05_pile_theLeastAndTheWidest() {
        for (int i = 0; i < PILES.length; i++) {
            Run.page(PILES[i]).due(SIZES[i], "pile").due(0, "count", 8).due(SIZES[i], "count", 1).due(1, "count", 9)
                .due(0, "fault").due(0, "blank").refused(STATE, "pile");
        }
    }

    @Says(under = "Promise 5", words = "(another one is gone, with all that was)")
    static void p05_pile_another_nothingIsToldOrSeenOrChanged() {
        Run run = Run.busy().type("gm,w;190").due(6, "pile").due(3, "count", 0).due(0, "count", 4).due(0, "count", 5)
            .due(0, "count", 6).due(0, "count", 7).due(1000, "left").due(0, "forget");
        for (int brick = 0; brick < 6; brick++) {
            run.due(NONE, "brick", brick, 4).due(brick < 3 ? 0 : 31, "brick", brick, 5);
        }
        run.refused(UNKNOWN, "brick", 6, 0);
    }

    @Says(under = "Promise 5", words = "(another one is gone, with all that was)")
    static void p05_pile_another_isAsOneReadFirst() {
        Run first = Run.of(PILES[1]);
        Run second = Run.of(Run.FOUR);
        second.ask("put", 0, 1);
        second.ask("change", 9, 4);
        second.ask("tell", 9, 7);
        second.ask("see", 9, 1, 1, 2);
        second.ask("image");
        second.type(PILES[1]).due(6, "pile");
        for (int brick = 0; brick < 6; brick++) {
            for (int what = 0; what <= 6; what++) {
                second.due(first.ask("brick", brick, what), "brick", brick, what);
            }
        }
        for (int what = 0; what <= 11; what++) {
            second.due(what == 9 ? 2 : first.ask("count", what), "count", what);
        }
    }

    @Says(under = "Promise 5", words = "(another one is gone, with all that was)")
    static void p05_pile_another_ofTheSameText() {
        Run.of(Run.TWO).due(9, "put", 0, 2).due(0, "tell", 2, 19).due(1, "image").type(Run.TWO).due(3, "pile")
            .due(4, "brick", 0, 1).due(0, "count", 4).due(0, "count", 6).refused(STATE, "restore");
    }

    @Says(under = "Promise 5", words = "STATE: it is none.")
    static void p05_state_anEmptyPage() {
        Run.fresh().refused(STATE, "pile");
        Run.busy().due(2, "blank").refused(STATE, "pile");
    }

    @Says(under = "Promise 5", words = "STATE: it is none.")
    static void p05_state_eachBeginningOfAPile() {
        for (String pile : PILES) {
            for (int many = 0; many < pile.length(); many++) {
                Run.page(pile.substring(0, many)).refused(STATE, "pile").type(pile.substring(many))
                    .due(pile.length(), "fault").due(0, "count", 9);
            }
        }
    }

    @Says(under = "Promise 5", words = "STATE: it is none.")
    static void p05_state_oneLetterMore() {
        for (String pile : PILES) {
            for (char more : new char[] {'0', '9', ';', ',', 's', 1, 126}) {
                Run.page(pile).due(pile.length() + 1, "letter", more).refused(STATE, "pile");
            }
        }
    }

    @Says(under = "Promise 5", words = "STATE: it is none.")
    static void p05_state_aFullPage() {
        Run.page("4;sss,ss,s;1234567").due(18, "count", 8).refused(STATE, "pile").due(18, "blank");
    }

    @Says(under = "Promise 5", words = "STATE: it is none.")
    static void p05_state_thePileAndItsImageStay() {
        Run.busy().refused(STATE, "pile").due(10, "count", 1).due(1, "count", 9).due(1, "restore");
    }

    @Says(under = "Promise 6", words = "0 KIND (NONE: a FIGURE)")
    static void p06_kind_theLastFigureAndTheFirstBrickUponIt() {
        Run.of("2;s;12").due(NONE, "brick", 0, 0).due(NONE, "brick", 1, 0).due(0, "brick", 2, 0);
        Run.of("3;lg,m;123").due(NONE, "brick", 2, 0).due(4, "brick", 3, 0).due(2, "brick", 5, 0);
        Run.of("4;wgl,ms,s;1234").due(NONE, "brick", 3, 0).due(3, "brick", 4, 0).due(0, "brick", 9, 0);
    }

    @Says(under = "Promise 6", words = "1 how great it is")
    static void p06_great_theLeastAndTheGreatestTop() {
        Run.of("4;ggg,gg,g;9999").due(9, "brick", 0, 1).due(0, "brick", 4, 1).due(0, "brick", 9, 1);
        Run.of("4;www,ww,w;9999").due(27, "brick", 4, 1).due(81, "brick", 7, 1).due(243, "brick", 9, 1);
        Run.of("4;www,ww,l;9999").due(3, "brick", 9, 1); // the last figure of 2 times 81, and 81
    }

    @Says(under = "Promise 6", words = "2, 3 the LEFT, the RIGHT one below it (NONE: a FIGURE)")
    static void p06_below_eachBrickOfEachPile() {
        int[][] left = {{2, 0}, {3, 0, 4, 1, 5, 3}, {4, 0, 5, 1, 6, 2, 7, 4, 8, 5, 9, 7}};
        for (int i = 0; i < PILES.length; i++) {
            Run run = Run.of(PILES[i]);
            for (int figure = 0; figure < i + 2; figure++) {
                run.due(NONE, "brick", figure, 2).due(NONE, "brick", figure, 3);
            }
            for (int at = 0; at < left[i].length; at += 2) {
                run.due(left[i][at + 1], "brick", left[i][at], 2).due(left[i][at + 1] + 1, "brick", left[i][at], 3);
            }
        }
    }

    @Says(under = "Promise 6", words = "4 what is TOLD of it (NONE)")
    static void p06_told_nothingAndNoughtAndTheGreatest() {
        Run.of(Run.TWO).due(NONE, "brick", 0, 4).due(NONE, "brick", 2, 4).due(1, "tell", 2, 0).due(0, "brick", 2, 4)
            .due(0, "tell", 2, 999).due(999, "brick", 2, 4).due(100, "hush", 2).due(NONE, "brick", 2, 4);
    }

    @Says(under = "Promise 6", words = "5 SORTS, as bits (0: a FIGURE)")
    static void p06_sorts_nothingSeenAndNoneLeft() {
        Run.of(Run.THREE).due(0, "brick", 0, 5).due(0, "brick", 2, 5).due(31, "brick", 3, 5).due(31, "brick", 5, 5)
            .due(1, "see", 3, 0, 0, 0).due(31, "brick", 3, 5).due(2, "see", 3, 0, 0, 1).due(0, "brick", 3, 5)
            .due(31, "brick", 4, 5);
    }

    @Says(under = "Promise 6", words = "5 SORTS, as bits (0: a FIGURE)")
    static void p06_sorts_eachAlone() {
        int[][] alone = {{9, 8, 17}, {9, 8, 1}, {9, 8, 9}, {9, 8, 26}, {9, 8, 6}};
        for (int kind = 0; kind < alone.length; kind++) {
            Run.of(Run.TWO).due(1, "see", 2, alone[kind][0], alone[kind][1], alone[kind][2])
                .due(1 << kind, "brick", 2, 5).due(0, "brick", 2, 6);
        }
    }

    @Says(under = "Promise 6", words = "6 TRY (NONE; a FIGURE: NONE)")
    static void p06_try_nothingSeenAndNoSortsLeft() {
        Run.of(Run.THREE).due(NONE, "brick", 0, 6).due(NONE, "brick", 2, 6).due(18, "brick", 3, 6)
            .due(1, "see", 3, 0, 0, 1).due(NONE, "brick", 3, 6).due(18, "brick", 4, 6).due(NONE, "brick", 2, 6)
            .due(1, "forget").due(18, "brick", 3, 6);
    }

    @Says(under = "Promise 6", words = "5 SORTS, as bits (0: a FIGURE)")
    static void p06_sortsAndTry_byAllThatCanBeSeenAtOnce() {
        for (int pair = 0; pair <= 99; pair++) {
            for (int number = 0; number <= 30; number++) {
                int sorts = 0;
                for (int kind = 0; kind <= 4; kind++) {
                    sorts |= made(kind, pair) == number ? 1 << kind : 0;
                }
                Run.of(Run.TWO).due(1, "see", 2, pair / 10, pair % 10, number).due(sorts, "brick", 2, 5)
                    .due(firstThatTellsApart(sorts), "brick", 2, 6);
            }
        }
    }

    private static int made(int kind, int pair) {
        int left = pair / 10;
        int right = pair % 10;
        int[] all = {left + right, Math.abs(left - right), Math.max(left, right), 2 * left + right,
            (2 * left + right) % 10};
        return all[kind];
    }

    /** 18 is told otherwise by all five: so one is left at worst, and the first two that do so are the ones. */
    private static int firstThatTellsApart(int sorts) {
        for (int pair = 0; pair <= 18 && sorts != 0; pair++) {
            boolean alike = false;
            for (int one = 0; one <= 4; one++) {
                for (int other = 0; other < one; other++) {
                    boolean both = (sorts >> one & 1) != 0 && (sorts >> other & 1) != 0;
                    alike |= both && made(one, pair) == made(other, pair);
                }
            }
            if (!alike) {
                return pair;
            }
        }
        return NONE;
    }

    @Says(under = "Promise 6", words = "UNKNOWN; OUTSIDE.")
    static void p06_unknown_bricksBeyondTheLeastAndTheGreatest() {
        for (int i = 0; i < PILES.length; i++) {
            Run.of(PILES[i]).due(NONE, "brick", 0, 4).due(NONE, "brick", SIZES[i] - 1, 4)
                .refused(UNKNOWN, "brick", -1, 4).refused(UNKNOWN, "brick", SIZES[i], 4)
                .refused(UNKNOWN, "brick", LOW, 4).refused(UNKNOWN, "brick", HIGH, 4);
        }
    }

    @Says(under = "Promise 6", words = "UNKNOWN; OUTSIDE.")
    static void p06_outside_whatBeyondTheLeastAndTheGreatest() {
        Run.busy().due(NONE, "brick", 3, 0).due(NONE, "brick", 3, 6).refused(OUTSIDE, "brick", 0, -1)
            .refused(OUTSIDE, "brick", 0, 7).refused(OUTSIDE, "brick", 9, 7).refused(OUTSIDE, "brick", 9, LOW)
            .refused(OUTSIDE, "brick", 9, HIGH);
    }

    @Says(under = "Promise 6", words = "UNKNOWN; OUTSIDE.")
    static void p06_unknownComesAheadOfOutside() {
        Run.busy().refused(UNKNOWN, "brick", 10, 7).refused(UNKNOWN, "brick", -1, -1);
        Run.fresh().refused(UNKNOWN, "brick", 0, 7);
    }

    @Says(under = "Promise 7", words = "NONE: it is none such, or a FIGURE (the cast fails).")
    static void p07_none_aFigureIsNotEvenABrick() {
        Run run = Run.of(Run.FOUR);
        for (int kind = 0; kind <= 4; kind++) {
            run.due(NONE, "as", 0, kind).due(NONE, "as", 3, kind);
        }
        run.due(4, "as", 4, 0).due(9, "as", 9, 0);
    }

    @Says(under = "Promise 7", words = "NONE: it is none such, or a FIGURE (the cast fails).")
    static void p07_none_eachKindTakenAsEach() {
        String[] such = {"0", "01", "02", "03", "034"};
        for (int is = 0; is <= 4; is++) {
            Run run = Run.of("2;s;12").due(0, "change", 2, is);
            for (int kind = 0; kind <= 4; kind++) {
                run.due(such[is].indexOf('0' + kind) >= 0 ? 2 : NONE, "as", 2, kind);
            }
        }
    }

    @Says(under = "Promise 7", words = "UNKNOWN; OUTSIDE.")
    static void p07_unknown_bricksBeyondTheLeastAndTheGreatest() {
        for (int i = 0; i < PILES.length; i++) {
            Run.of(PILES[i]).due(NONE, "as", 0, 0).due(SIZES[i] - 1, "as", SIZES[i] - 1, 0)
                .refused(UNKNOWN, "as", -1, 0).refused(UNKNOWN, "as", SIZES[i], 0).refused(UNKNOWN, "as", LOW, 0)
                .refused(UNKNOWN, "as", HIGH, 0);
        }
    }

    @Says(under = "Promise 7", words = "UNKNOWN; OUTSIDE.")
    static void p07_outside_kindsBeyondTheLeastAndTheGreatest() {
        Run.of("2;l;12").due(2, "as", 2, 0).due(2, "as", 2, 4).refused(OUTSIDE, "as", 2, -1)
            .refused(OUTSIDE, "as", 2, 5).refused(OUTSIDE, "as", 2, LOW).refused(OUTSIDE, "as", 2, HIGH)
            .refused(OUTSIDE, "as", 0, -1).refused(OUTSIDE, "as", 0, 5);
    }

    @Says(under = "Promise 7", words = "UNKNOWN; OUTSIDE.")
    static void p07_unknownComesAheadOfOutside() {
        Run.busy().refused(UNKNOWN, "as", 10, 5).refused(UNKNOWN, "as", -1, -1);
        Run.fresh().refused(UNKNOWN, "as", 0, 5);
    }

    @Says(under = "Promise 8", words = "What a BRICK above the lowest row would be, made of two.")
    static void p08_makes_theLeastAndTheGreatestOfEachKind() {
        int[] ofNoughts = {0, 0, 0, 0, 0};
        int[] ofNines = {18, 0, 9, 27, 7};
        int[] ofNoughtAndNine = {9, 9, 9, 9, 9};
        int[] ofNineAndNought = {9, 9, 9, 18, 8};
        for (int kind = 0; kind <= 4; kind++) {
            Run.of("2;s;12").due(0, "change", 2, kind).due(ofNoughts[kind], "makes", 2, 0, 0)
                .due(ofNines[kind], "makes", 2, 9, 9).due(ofNoughtAndNine[kind], "makes", 2, 0, 9)
                .due(ofNineAndNought[kind], "makes", 2, 9, 0);
        }
    }

    @Says(under = "Promise 8", words = "What a BRICK above the lowest row would be, made of two.")
    static void p08_makes_nothingIsDone() {
        Run run = Run.busy();
        long before = run.ask("digest");
        run.due(27, "makes", 4, 9, 9).due(27, "makes", 9, 9, 9).due(before, "digest");
    }

    @Says(under = "Promise 8", words = "UNKNOWN: brick (a FIGURE, too)")
    static void p08_unknown_theLastFigureAndOneBeyondTheTop() {
        for (int i = 0; i < PILES.length; i++) {
            int wide = i + 2;
            Run.of(PILES[i]).refused(UNKNOWN, "makes", wide - 1, 0, 0).due(0, "makes", wide, 0, 0)
                .due(0, "makes", SIZES[i] - 1, 0, 0).refused(UNKNOWN, "makes", SIZES[i], 0, 0)
                .refused(UNKNOWN, "makes", 0, 0, 0).refused(UNKNOWN, "makes", -1, 0, 0)
                .refused(UNKNOWN, "makes", LOW, 0, 0).refused(UNKNOWN, "makes", HIGH, 0, 0);
        }
    }

    @Says(under = "Promise 8", words = "OUTSIDE: left, right (0 to 9).")
    static void p08_outside_left() {
        Run.busy().due(9, "makes", 4, 0, 9).due(18, "makes", 4, 9, 0).refused(OUTSIDE, "makes", 4, -1, 0)
            .refused(OUTSIDE, "makes", 4, 10, 0).refused(OUTSIDE, "makes", 4, LOW, 0)
            .refused(OUTSIDE, "makes", 4, HIGH, 0);
    }

    @Says(under = "Promise 8", words = "OUTSIDE: left, right (0 to 9).")
    static void p08_outside_right() {
        Run.busy().refused(OUTSIDE, "makes", 4, 0, -1).refused(OUTSIDE, "makes", 4, 0, 10)
            .refused(OUTSIDE, "makes", 4, 9, LOW).refused(OUTSIDE, "makes", 4, 9, HIGH);
    }

    @Says(under = "Promise 8", words = "UNKNOWN: brick (a FIGURE, too); OUTSIDE: left, right (0 to 9).")
    static void p08_unknownComesAheadOfOutside() {
        Run.busy().refused(UNKNOWN, "makes", 3, 10, 0).refused(UNKNOWN, "makes", 10, 0, -1)
            .refused(UNKNOWN, "makes", -1, -1, 10);
        Run.fresh().refused(UNKNOWN, "makes", 2, 10, 10);
    }
}
