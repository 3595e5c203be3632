/** The boundary cases that the document tells ahead of the promises: what a pile is, and its terms. */
public final class TermsEdgesTest {
    private static final int NONE = Run.NONE, UNKNOWN = Run.UNKNOWN, OUTSIDE = Run.OUTSIDE, STATE = Run.STATE,
        FULL = Run.FULL;
    private static final int MOST_CALLS = 512;

    private TermsEdgesTest() {
    }

    public static void main(String[] args) {
        Cases.run(TermsEdgesTest.class);
    }

    @Says(under = "What it is", words = "a digit, how WIDE it is (2 to 4)")
    static void wide_theLeastAndTheGreatestAndThoseBeyond() {
        Run.page("2;s;12").due(3, "pile").due(2, "count", 0);
        Run.page("4;sss,ss,s;1234").due(10, "pile").due(4, "count", 0);
        Run.page("1;;1").due(0, "fault").refused(STATE, "pile");
        Run.page("0;;").due(0, "fault").refused(STATE, "pile");
        Run.page("5;ssss,sss,ss,s;12").due(0, "fault").refused(STATE, "pile");
    }

    @Says(under = "What it is", words = "one less than WIDE, then one less than that, and so on, down to one")
    static void rows_oneLetterLessAndOneMore() {
        Run.page("3;ss,s;123").due(6, "pile");
        Run.page("3;s,s;123").due(3, "fault").refused(STATE, "pile");
        Run.page("3;sss,s;123").due(4, "fault").refused(STATE, "pile");
        Run.page("3;ss,;123").due(5, "fault").refused(STATE, "pile");
        Run.page("3;ss,ss;123").due(6, "fault").refused(STATE, "pile");
    }

    @Says(under = "What it is", words = "one less than WIDE, then one less than that, and so on, down to one")
    static void rows_oneRowLessAndOneMore() {
        Run.page("2;;12").due(2, "fault").refused(STATE, "pile");
        Run.page("2;s,s;12").due(3, "fault").refused(STATE, "pile");
        Run.page("4;sss,ss;1234").due(8, "fault").refused(STATE, "pile");
        Run.page("4;sss,ss,s,s;1234").due(10, "fault").refused(STATE, "pile");
    }

    @Says(under = "What it is", words = "as many digits as it is WIDE, the FIGURES.")
    static void figures_oneLessAndOneMore() {
        Run.page("2;s;1").due(5, "fault").refused(STATE, "pile");
        Run.page("2;s;123").due(6, "fault").refused(STATE, "pile");
        Run.page("4;sss,ss,s;123").due(14, "fault").refused(STATE, "pile");
        Run.page("4;sss,ss,s;12345").due(15, "fault").refused(STATE, "pile");
    }

    @Says(under = "What it is", words = "as many digits as it is WIDE, the FIGURES.")
    static void figures_theLeastAndTheGreatestDigitAndTheSignsBeyond() {
        Run.page("2;s;09").due(3, "pile").due(0, "brick", 0, 1).due(9, "brick", 1, 1);
        Run.page("2;s;/9").due(4, "fault").refused(STATE, "pile");
        Run.page("2;s;0:").due(5, "fault").refused(STATE, "pile");
    }

    @Says(under = "What it is", words = "An object is used for at most 512 calls after it has been made")
    static void calls_the512thAnswersAsTheFirst() {
        Run run = Run.of(Run.FOUR);
        for (int turn = 0; run.calls() < MOST_CALLS - 1; turn++) {
            switch (turn % 5) {
                case 0: run.due(10000, "left"); break;
                case 1: run.due(NONE, "swing", 0); break;
                case 2: run.due(9999, "fits", 9999); break;
                case 3: run.due(52, "count", 2); break;
                default: run.due(18, "brick", 9, 6); break;
            }
        }
        run.due(65, "put", 1, 9);
        if (run.calls() != MOST_CALLS) {
            Run.wrong("it was call " + run.calls());
        }
    }

    @Says(under = "What it is", words = "An object is used for at most 512 calls after it has been made")
    static void calls_512ThatChangeMuch() {
        Run run = Run.of(Run.TWO);
        int changes = 0;
        while (run.calls() + 4 < MOST_CALLS) {
            run.ask("exchange", 0, 1);
            run.ask("change", 2, changes % 5);
            run.ask("tell", changes % 3, changes % 20);
            run.due(++changes, "image");
        }
        while (run.calls() < MOST_CALLS - 1) {
            run.due(3, "count", 4);
        }
        run.due(changes, "restore");
    }

    @Says(under = "Terms", words = "BRICKS are numbered from 0: the FIGURES first, from left to right")
    static void bricks_theFirstAndTheLastFigure() {
        Run.of(Run.FOUR).due(9, "brick", 0, 1).due(5, "brick", 3, 1).due(18, "brick", 4, 1)
            .refused(UNKNOWN, "brick", -1, 1);
    }

    @Says(under = "Terms", words = "then ROW by ROW up; the last one is the TOP.")
    static void bricks_theTopIsTheLastOne() {
        Run.of(Run.TWO).due(11, "brick", 2, 1).due(11, "count", 2).refused(UNKNOWN, "brick", 3, 1);
        Run.of(Run.THREE).due(3, "brick", 5, 1).due(3, "count", 2).refused(UNKNOWN, "brick", 6, 1);
        Run.of(Run.FOUR).due(52, "brick", 9, 1).due(52, "count", 2).refused(UNKNOWN, "brick", 10, 1);
    }

    @Says(under = "Terms", words = "At first there is none; then nothing is TOLD.")
    static void first_noneThenNothingTold() {
        Run run = Run.page(Run.FOUR).due(0, "count", 1).due(0, "count", 4).due(10, "pile").due(0, "count", 4);
        for (int brick = 0; brick < 10; brick++) {
            run.due(NONE, "brick", brick, 4);
        }
    }

    @Says(under = "Terms", words = "a LAST is a TWICE, too (a FIGURE is of no KIND)")
    static void kinds_aLastIsATwiceATwiceIsNoLast() {
        Run.of("3;lw,s;123").due(3, "as", 3, 3).due(3, "as", 3, 4).due(4, "as", 4, 3).due(NONE, "as", 4, 4)
            .due(4, "brick", 3, 0).due(3, "brick", 4, 0).due(NONE, "as", 2, 3).due(NONE, "brick", 2, 0);
    }

    @Says(under = "Terms", words = "a GAP the greater one less the other one; a MORE the greater one")
    static void made_gapAndMoreOfLikeOnes() {
        Run.of("3;gm,s;555").due(0, "brick", 3, 1).due(5, "brick", 4, 1).due(0, "makes", 3, 9, 9)
            .due(9, "makes", 4, 9, 9).due(9, "makes", 3, 0, 9).due(9, "makes", 3, 9, 0);
    }

    @Says(under = "Terms", words = "a LAST the last figure of that")
    static void made_lastAtTenAndOfMoreThanAHundred() {
        Run.of("2;l;45").due(3, "count", 2).due(9, "makes", 2, 4, 1).due(0, "makes", 2, 5, 0).due(0, "makes", 2, 4, 2)
            .due(7, "makes", 2, 9, 9);
        Run.of("4;www,ww,l;9999").due(81, "brick", 7, 1).due(3, "count", 2);
    }

    @Says(under = "Terms",
        words = "by how much the TOP is more, or less, if that FIGURE is 1 more (told as 1000 more); none, if it is 9")
    static void swing_8And9() {
        Run.of("2;g;98").due(NONE, "swing", 0).due(999, "swing", 1).due(0, "put", 1, 9).due(NONE, "swing", 1)
            .due(1, "put", 0, 8).due(999, "swing", 0);
    }

    @Says(under = "Terms",
        words = "how to lay the FIGURES so that the TOP is most: how much; the FIGURES from left to right, as a "
            + "number: of like ones the least")
    static void order_ofLikeOnesTheLeast() {
        Run.of("4;sss,ss,s;9821").due(1 + 3 * 9 + 3 * 8 + 2, "order", 0).due(1892, "order", 1);
        Run.of("4;mmm,mm,m;9821").due(9, "order", 0).due(1289, "order", 1);
        Run.of("3;gg,g;090").due(9, "order", 0).due(9, "order", 1);
    }

    @Says(under = "Terms",
        words = "the fewest FIGURES to change so that the TOP is that: how many; the FIGURES then, as a number: of "
            + "like ones the least; none")
    static void need_ofLikeOnesTheLeast() {
        Run.of("2;s;47").due(1, "need", 12, 0).due(48, "need", 12, 1); // not 57
        Run.of("2;s;99").due(2, "need", 8, 0).due(8, "need", 8, 1);
        Run.of("2;m;55").due(1, "need", 9, 0).due(59, "need", 9, 1).due(2, "need", 0, 0).due(0, "need", 0, 1);
        Run.of("4;ggg,gg,g;1111").due(0, "need", 0, 0).due(1111, "need", 0, 1).due(NONE, "need", 10, 0);
    }

    @Says(under = "Terms",
        words = "TOLD of BRICKS (the FIGURES with them) is what they are, whatever they are now: a number for each "
            + "one at most.")
    static void told_whateverTheyAreNow() {
        Run.of("2;s;47").due(10, "tell", 0, 9).due(4, "brick", 0, 1).due(0, "count", 5).due(90, "fits", 0)
            .due(16, "put", 0, 9).due(1, "count", 5).due(10, "left").due(10, "tell", 0, 8).due(1, "count", 4);
    }

    @Says(under = "Terms", words = "A ROW of FIGURES FITS, if by it, KINDS as they are, all that is TOLD is so.")
    static void fits_kindsAsTheyAreNow() {
        Run.of("2;s;00").due(1, "tell", 2, 18).due(99, "fits", 0).due(0, "change", 2, 3).due(5, "left")
            .due(58, "fits", 0).due(90, "fits", 4).due(3, "change", 2, 4).due(0, "left").due(NONE, "fits", 0);
    }

    @Says(under = "Terms", words = "LEFT: how many FIT (of all of 0 to 9 each).")
    static void left_digitsBeyondTheLeastAndTheGreatest() {
        Run.of("2;s;00").due(10, "tell", 0, 0).due(10, "tell", 0, 9).due(0, "tell", 0, 10).due(100, "hush", 0)
            .due(1, "tell", 2, 0).due(1, "tell", 2, 18).due(0, "tell", 2, 19);
    }

    @Says(under = "Terms",
        words = "so that fewest FIT then at worst, by what it is: of like ones the least; none, if all are TOLD, or "
            + "none FITS.")
    static void look_ofLikeOnesTheLeast() {
        Run.of("2;s;00").due(0, "look").due(10, "tell", 2, 9).due(0, "look").due(1, "tell", 0, 0).due(1, "look")
            .due(1, "tell", 1, 9).due(NONE, "look");
    }

    @Says(under = "Terms",
        words = "so that fewest FIT then at worst, by what it is: of like ones the least; none, if all are TOLD, or "
            + "none FITS.")
    static void look_oneFitsAndNotAllAreTold() {
        Run.of("4;www,ww,w;0000").due(1, "tell", 9, 243).due(0, "look").due(1, "tell", 0, 9).due(1, "look");
    }

    @Says(under = "Terms",
        words = "so that fewest FIT then at worst, by what it is: of like ones the least; none, if all are TOLD, or "
            + "none FITS.")
    static void look_allAreToldAndNoneFits() {
        Run.of("2;s;00").due(10, "tell", 0, 1).due(1, "tell", 1, 1).due(0, "tell", 2, 3).due(NONE, "look")
            .due(1, "hush", 2).due(2, "look");
    }

    @Says(under = "Terms", words = "in lowest terms (0 of 1, if none FITS)")
    static void odds_lowestTermsAndNoneFits() {
        Run.of("2;l;00").due(10, "tell", 2, 0).due(1, "odds", 1, 0, 0).due(5, "odds", 1, 0, 1)
            .due(0, "odds", 1, 1, 0).due(1, "odds", 1, 1, 1).due(0, "tell", 2, 10).due(0, "odds", 1, 0, 0)
            .due(1, "odds", 1, 0, 1);
    }

    @Says(under = "Terms", words = "SEEN (6 at most): that a BRICK above the lowest row")
    static void seen_sixAtMost() {
        Run.of(Run.THREE).often(5, "see", 3, 1, 1, 2).due(6, "see", 5, 1, 1, 2).refused(FULL, "see", 4, 1, 1, 2)
            .refused(UNKNOWN, "see", 2, 1, 1, 2).due(6, "count", 7);
    }

    @Says(under = "Terms", words = "would be made so great of a LEFT one and a RIGHT one (0 to 9 each)")
    static void seen_theLeastAndTheGreatestOfBoth() {
        Run.of(Run.TWO).due(1, "see", 2, 0, 0, 0).due(31, "brick", 2, 5).due(2, "see", 2, 0, 9, 9)
            .due(31, "brick", 2, 5).due(3, "see", 2, 9, 9, 27).due(8, "brick", 2, 5);
    }

    @Says(under = "Terms", words = "SORTS (KINDS 0 to 4) it can be of, so that all that is SEEN of it is so: as bits.")
    static void sorts_allAndNone() {
        Run.of(Run.THREE).due(31, "brick", 3, 5).due(1, "see", 3, 1, 1, 0).due(2, "brick", 3, 5)
            .due(2, "see", 3, 1, 1, 1).due(0, "brick", 3, 5).due(31, "brick", 4, 5).due(0, "brick", 3, 0);
    }

    @Says(under = "Terms",
        words = "to make it next, so that fewest of these are left at worst: of like ones the least; none, if there "
            + "are none.")
    static void try_ofLikeOnesTheLeastAndNone() {
        Run.of(Run.TWO).due(18, "brick", 2, 6) // 9, 7, 8, 10, 0: the first two that all kinds make otherwise
            .due(1, "see", 2, 5, 0, 5).due(7, "brick", 2, 5).due(11, "brick", 2, 6).due(2, "see", 2, 1, 1, 1)
            .due(4, "brick", 2, 5).due(0, "brick", 2, 6).due(3, "see", 2, 0, 0, 1).due(NONE, "brick", 2, 6);
    }

    @Says(under = "Terms", words = "An IMAGE keeps KINDS, FIGURES, what is TOLD, SEEN, how often FIGURES were changed.")
    static void image_eachThatItKeeps() {
        Run.of(Run.TWO).due(0, "image").due(0, "change", 2, 3).due(0, "restore").due(0, "brick", 2, 0);
        Run.of(Run.TWO).due(0, "image").due(7, "put", 0, 0).due(0, "restore").due(4, "brick", 0, 1).due(11, "count", 2);
        Run.of(Run.TWO).due(10, "tell", 0, 3).due(0, "image").due(100, "hush", 0).due(1, "tell", 2, 0)
            .due(0, "restore").due(3, "brick", 0, 4).due(NONE, "brick", 2, 4).due(10, "left").due(30, "fits", 0);
        Run.of(Run.TWO).due(1, "see", 2, 9, 9, 27).due(0, "image").due(1, "forget").due(1, "see", 2, 9, 9, 18)
            .due(0, "restore").due(8, "brick", 2, 5).due(1, "count", 7);
        Run.of(Run.TWO).due(11, "exchange", 0, 1).due(1, "image").due(11, "exchange", 0, 1).due(2, "count", 6)
            .due(1, "restore").due(1, "count", 6);
    }

    @Says(under = "Terms", words = "An IMAGE keeps KINDS, FIGURES, what is TOLD, SEEN, how often FIGURES were changed.")
    static void image_eachThatItDoesNotKeep() {
        Run.of(Run.TWO).due(0, "image").due(0, "look").due(2, "need", 0, 0).due(1, "letter", '~').due(0, "restore")
            .due(1, "count", 8).due(1, "count", 9).due(1, "count", 10).due(1, "count", 11);
        Run.of(Run.TWO).type("3;").due(0, "image").due(2, "blank").due(0, "restore").due(0, "count", 8);
    }

    @Says(under = "Terms", words = "An IMAGE keeps KINDS, FIGURES, what is TOLD, SEEN, how often FIGURES were changed.")
    static void image_staysAsItWasKept() {
        Run run = Run.busy();
        run.ask("image");
        long kept = run.ask("digest");
        for (int turn = 0; turn < 3; turn++) {
            run.ask("put", 0, turn);
            run.ask("change", 9, turn);
            run.ask("tell", 5, turn);
            run.ask("hush", 0);
            run.ask("forget");
            run.ask("see", 6, turn, turn, turn);
            run.due(2, "restore").due(kept, "digest");
        }
    }

    @Says(under = "Terms", words = "Refusals, of several the first as told by each call")
    static void refusals_theFirstOfAllThatHold() {
        Run.of(Run.TWO).often(6, "see", 2, 1, 1, 1).refused(UNKNOWN, "see", 1, 10, 10, 31)
            .refused(OUTSIDE, "see", 2, 10, 10, 31).refused(FULL, "see", 2, 9, 9, 30);
        Run.fresh().refused(OUTSIDE, "need", 1000, 2).refused(STATE, "need", 999, 1);
        Run.fresh().refused(UNKNOWN, "tell", 0, 1000).refused(UNKNOWN, "hush", 0);
    }

    @Says(under = "Terms",
        words = "UNKNOWN (a number names nothing), OUTSIDE (it is not as told), STATE (as told), FULL; they change "
            + "nothing.")
    static void refusals_changeNothing() {
        Run run = Run.busy();
        long before = run.ask("digest");
        run.ask("put", 4, 0);
        run.ask("put", 0, 10);
        run.ask("exchange", 1, 1);
        run.ask("change", 9, 5);
        run.ask("tell", 9, 1000);
        run.ask("hush", 1);
        run.ask("need", 1000, 0);
        run.ask("see", 9, 1, 1, 31);
        run.ask("pile");
        run.ask("letter", 127);
        run.ask("fits", -1);
        run.ask("drawn", 61, 0, 0);
        run.due(before, "digest").due(1, "restore");
        Run untouched = Run.busy().due(1, "restore");
        run.due(untouched.ask("digest"), "digest");
    }
}
