import java.math.BigInteger;
import java.util.ArrayList;
import java.util.List;

/** The boundary cases of promises 24 to 27: the image, what is counted, the digest. */
public final class AllEdgesTest {
    private static final int NONE = Run.NONE, OUTSIDE = Run.OUTSIDE, STATE = Run.STATE, LOW = Run.LOW, HIGH = Run.HIGH;

    private AllEdgesTest() {
    }

    public static void main(String[] args) {
        Cases.run(AllEdgesTest.class);
    }

    @Says(under = "Promise 24", words = "An IMAGE is kept (one; the latest): how often FIGURES were changed.")
    static void p24_image_ofAPileJustRead() {
        Run run = Run.of(Run.TWO);
        long read = run.ask("digest");
        run.due(0, "image").due(read, "digest").due(7, "put", 0, 0).due(0, "restore").due(read, "digest");
    }

    @Says(under = "Promise 24", words = "An IMAGE is kept (one; the latest): how often FIGURES were changed.")
    static void p24_image_theLatestOfTwo() {
        Run.of(Run.TWO).due(0, "image").due(7, "put", 0, 0).due(1, "image").due(8, "put", 0, 1).due(1, "restore")
            .due(0, "brick", 0, 1).due(1, "restore").due(0, "brick", 0, 1);
    }

    @Says(under = "Promise 24", words = "An IMAGE is kept (one; the latest): how often FIGURES were changed.")
    static void p24_image_ofWhatWasRestored() {
        Run.of(Run.TWO).due(7, "put", 0, 0).due(1, "image").due(8, "put", 0, 1).due(1, "restore").due(1, "image")
            .due(9, "put", 0, 2).due(1, "restore").due(0, "brick", 0, 1);
    }

    @Says(under = "Promise 24", words = "STATE: no PILE.")
    static void p24_state_noPile() {
        Run.page(Run.TWO).refused(STATE, "image").due(3, "pile").refused(STATE, "restore").due(0, "image");
    }

    @Says(under = "Promise 25", words = "It goes on from the IMAGE: how often FIGURES were changed.")
    static void p25_restore_whereNothingWasDoneSince() {
        Run run = Run.of(Run.TWO);
        run.ask("put", 0, 9);
        run.ask("tell", 2, 16);
        run.ask("image");
        long kept = run.ask("digest");
        run.due(1, "restore").due(kept, "digest").due(1, "restore").due(kept, "digest");
    }

    @Says(under = "Promise 25", words = "It goes on from the IMAGE: how often FIGURES were changed.")
    static void p25_restore_nothingToldAndNothingSeenWasKept() {
        Run.of(Run.TWO).due(0, "image").due(10, "tell", 0, 0).due(1, "tell", 1, 9).due(1, "tell", 2, 9)
            .often(6, "see", 2, 1, 1, 1).due(0, "restore").due(0, "count", 4).due(0, "count", 7).due(100, "left")
            .due(31, "brick", 2, 5).refused(STATE, "hush", 0);
    }

    @Says(under = "Promise 25", words = "It goes on from the IMAGE: how often FIGURES were changed.")
    static void p25_restore_allToldAndAsMuchSeenAsCanBeWasKept() {
        Run run = Run.of(Run.TWO).due(10, "tell", 0, 0).due(1, "tell", 1, 9).due(1, "tell", 2, 9)
            .often(6, "see", 2, 1, 1, 1).due(0, "image");
        long kept = run.ask("digest");
        run.due(1, "hush", 0).due(10, "hush", 2).due(100, "hush", 1).due(6, "forget").due(1, "see", 2, 9, 9, 18)
            .due(0, "restore").due(kept, "digest").due(3, "count", 4).due(6, "count", 7).due(9, "fits", 0);
    }

    @Says(under = "Promise 25", words = "STATE: none was kept, or there is another PILE since.")
    static void p25_state_noneWasKept() {
        Run.fresh().refused(STATE, "restore");
        Run.of(Run.TWO).refused(STATE, "restore").due(7, "put", 0, 0).refused(STATE, "restore").due(0, "brick", 0, 1);
    }

    @Says(under = "Promise 25", words = "STATE: none was kept, or there is another PILE since.")
    static void p25_state_anotherPileSince() {
        Run.of(Run.TWO).due(0, "image").type(Run.THREE).due(6, "pile").refused(STATE, "restore").due(3, "count", 0)
            .due(0, "image").due(0, "restore");
    }

    @Says(under = "Promise 25", words = "STATE: none was kept, or there is another PILE since.")
    static void p25_state_anotherPileOfTheSameTextSince() {
        Run.of(Run.TWO).due(0, "image").type(Run.TWO).due(3, "pile").refused(STATE, "restore").due(2, "count", 9);
    }

    @Says(under = "Promise 25", words = "STATE: none was kept, or there is another PILE since.")
    static void p25_state_notByAPageThatIsNoPile() {
        Run.of(Run.TWO).due(0, "image").due(7, "put", 0, 0).type("3;ss").refused(STATE, "pile").due(0, "restore")
            .due(4, "brick", 0, 1).due(4, "count", 8);
    }

    @Says(under = "Promise 25", words = "STATE: none was kept, or there is another PILE since.")
    static void p25_state_theImageBeforeDoesNotComeBack() {
        Run.of(Run.TWO).due(0, "image").type(Run.TWO).due(3, "pile").type(Run.TWO).due(3, "pile")
            .refused(STATE, "restore");
    }

    @Says(under = "Promise 26", words = "2 the TOP (NONE: no PILE)")
    static void p26_count_theTopOfNoPileAndATopOfNought() {
        Run.page("2;g;55").due(NONE, "count", 2).due(3, "pile").due(0, "count", 2);
    }

    @Says(under = "Promise 26", words = "3 all BRICKS together, as great as they are")
    static void p26_count_togetherTheLeastAndTheGreatest() {
        Run.fresh().due(0, "count", 3);
        Run.of("2;s;00").due(0, "count", 3);
        Run.of("4;www,ww,w;9999").due(4 * 9 + 3 * 27 + 2 * 81 + 243, "count", 3);
    }

    @Says(under = "Promise 26", words = "4 what is TOLD, 5 TOLD ones that are as they are TOLD now")
    static void p26_count_nothingToldAndAllTold() {
        Run.of(Run.TWO).due(0, "count", 4).due(0, "count", 5).due(10, "tell", 0, 4).due(1, "tell", 1, 7)
            .due(1, "tell", 2, 11).due(3, "count", 4).due(3, "count", 5).due(12, "put", 0, 5).due(3, "count", 4)
            .due(1, "count", 5).due(7, "put", 0, 0).due(0, "change", 2, 4).due(1, "count", 5).due(3, "count", 4);
    }

    @Says(under = "Promise 26", words = "4 what is TOLD, 5 TOLD ones that are as they are TOLD now")
    static void p26_count_toldAsNoughtAndAsWhatNoneFits() {
        Run.of("2;g;00").due(10, "tell", 2, 0).due(1, "count", 4).due(1, "count", 5).due(0, "tell", 2, 999)
            .due(1, "count", 4).due(0, "count", 5);
    }

    @Says(under = "Promise 26", words = "8 letters of THE PAGE, 9 how often a PILE was read")
    static void p26_count_thePageFullAndPilesReadAndRefused() {
        Run.fresh().due(0, "count", 8).often(20, "letter", 's').due(18, "count", 8).due(STATE, "pile")
            .due(0, "count", 9).due(18, "blank").type(Run.TWO).due(3, "pile").due(1, "count", 9).type(Run.TWO)
            .due(3, "pile").due(2, "count", 9).due(0, "count", 8);
    }

    @Says(under = "Promise 26", words = "10 how often need() was done, 11 look()")
    static void p26_count_searchesUpToTheLast() {
        Run run = Run.of(Run.TWO);
        for (int times = 0; times <= 22; times++) {
            run.due(Math.min(times, 20), "count", 10).due(Math.min(times, 20), "count", 11);
            run.ask("need", 3, 0);
            run.ask("look");
        }
    }

    @Says(under = "Promise 26", words = "OUTSIDE.")
    static void p26_outside_whatBeyondTheLeastAndTheGreatest() {
        Run.busy().due(4, "count", 0).due(1, "count", 11).refused(OUTSIDE, "count", -1).refused(OUTSIDE, "count", 12)
            .refused(OUTSIDE, "count", LOW).refused(OUTSIDE, "count", HIGH);
        Run.fresh().refused(OUTSIDE, "count", -1).refused(OUTSIDE, "count", 12);
    }

    @Says(under = "Promise 27", words = "31 times h, and it (as longs, wrapping)")
    static void p27_digest_wrapsEvenWithNoPile() {
        // 1327 times 31 to the 12th is above 2 to the 63
        int[] counts = {0, 0, NONE, 0, 0, 0, 0, 0, 0, 0, 0, 0};
        List<Long> numbers = new ArrayList<>();
        for (int count : counts) {
            numbers.add((long) count);
        }
        if (unwrapped(numbers).bitLength() < 64) {
            Run.wrong("this digest does not wrap");
        }
        Run.fresh().due(unwrapped(numbers).longValue(), "digest");
    }

    @Says(under = "Promise 27", words = "31 times h, and it (as longs, wrapping)")
    static void p27_digest_wrapsToBothSigns() {
        int below = 0;
        int above = 0;
        for (int code = 1; code <= 126; code++) {
            Run run = Run.fresh().due(1, "letter", code);
            run.due(unwrapped(numbersOf(run, String.valueOf((char) code))).longValue(), "digest");
            below += run.ask("digest") < 0 ? 1 : 0;
            above += run.ask("digest") > 0 ? 1 : 0;
        }
        if (below == 0 || above == 0) {
            Run.wrong("all digests are of one sign");
        }
    }

    @Says(under = "Promise 27",
        words = "of each BRICK what brick() tells for 0 to 6; of each FIGURE what swing() tells")
    static void p27_digest_ofEachWidth() {
        for (String text : new String[] {Run.TWO, Run.THREE, Run.FOUR, "2;g;99", "4;www,ww,w;9999"}) {
            Run run = Run.of(text);
            run.due(unwrapped(numbersOf(run, "")).longValue(), "digest");
        }
    }

    @Says(under = "Promise 27", words = "letters of THE PAGE; what count() tells for 0 to 11.")
    static void p27_digest_thePageEmptyAndFull() {
        Run run = Run.busy();
        run.due(unwrapped(numbersOf(run, "3;")).longValue(), "digest").type("~~~~~~~~~~~~~~~~");
        run.due(unwrapped(numbersOf(run, "3;~~~~~~~~~~~~~~~~")).longValue(), "digest").due(18, "blank");
        run.due(unwrapped(numbersOf(run, "")).longValue(), "digest");
    }

    @Says(under = "Promise 27", words = "with a PILE order() for 0 and 1, left(), fits() of 0")
    static void p27_digest_allToldAndNoneFitting() {
        Run run = Run.of(Run.TWO).due(10, "tell", 0, 4).due(1, "tell", 1, 7).due(1, "tell", 2, 11);
        run.due(unwrapped(numbersOf(run, "")).longValue(), "digest").due(0, "tell", 2, 12);
        run.due(unwrapped(numbersOf(run, "")).longValue(), "digest");
    }

    @Says(under = "Promise 27", words = "what count() tells for 0 to 11.")
    static void p27_digest_isNoSearch() {
        Run.of(Run.TWO).often(25, "digest").due(0, "count", 10).due(0, "count", 11).due(0, "count", 6);
    }

    /** The digest before any wrapping. */
    private static BigInteger unwrapped(List<Long> numbers) {
        BigInteger h = BigInteger.valueOf(1327);
        for (long number : numbers) {
            h = h.multiply(BigInteger.valueOf(31)).add(BigInteger.valueOf(number));
        }
        return h;
    }

    private static List<Long> numbersOf(Run run, String page) {
        List<Long> numbers = new ArrayList<>();
        int wide = (int) run.ask("count", 0);
        for (int brick = 0; brick < run.ask("count", 1); brick++) {
            for (int what = 0; what <= 6; what++) {
                numbers.add(run.ask("brick", brick, what));
            }
        }
        for (int figure = 0; figure < wide; figure++) {
            numbers.add(run.ask("swing", figure));
            numbers.add(run.ask("odds", figure, 3, 0));
            numbers.add(run.ask("odds", figure, 3, 1));
        }
        if (wide > 0) {
            numbers.add(run.ask("order", 0));
            numbers.add(run.ask("order", 1));
            numbers.add(run.ask("left"));
            numbers.add(run.ask("fits", 0));
        }
        for (char letter : page.toCharArray()) {
            numbers.add((long) letter);
        }
        for (int what = 0; what <= 11; what++) {
            numbers.add(run.ask("count", what));
        }
        return numbers;
    }
}
