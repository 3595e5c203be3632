import java.math.BigInteger;

/** The boundary cases of promises 21 to 23: what is seen, what is forgotten, what is drawn. */
public final class SeenEdgesTest {
    private static final int UNKNOWN = Run.UNKNOWN, OUTSIDE = Run.OUTSIDE, STATE = Run.STATE, FULL = Run.FULL,
        LOW = Run.LOW, HIGH = Run.HIGH;
    private static final String[] PILES = {"2;l;09", "3;gm,w;190", "4;sgm,wl,s;0918"};
    private static final int[] SIZES = {3, 6, 10};
    private static final BigInteger FACTOR = BigInteger.valueOf(1103515245);
    private static final BigInteger MORE = BigInteger.valueOf(12345);
    private static final BigInteger MODULUS = BigInteger.TWO.pow(31);

    private SeenEdgesTest() {
    }

    public static void main(String[] args) {
        Cases.run(SeenEdgesTest.class);
    }

    /** Six are seen of a sum: as much as can be. */
    private static Run sixSeen() {
        Run run = Run.of(Run.TWO);
        for (int many = 1; many <= 6; many++) {
            run.due(many, "see", 2, many, 9, many + 9);
        }
        return run;
    }

    @Says(under = "Promise 21", words = "It is SEEN: how much is.")
    static void p21_see_fromNothingToAsMuchAsCanBe() {
        Run.of(Run.TWO).due(0, "count", 7).due(31, "brick", 2, 5);
        sixSeen().due(6, "count", 7).due(1, "brick", 2, 5);
    }

    @Says(under = "Promise 21", words = "It is SEEN: how much is.")
    static void p21_see_theSameTwiceAndWhatCantBe() {
        Run.of(Run.TWO).due(1, "see", 2, 9, 9, 27).due(2, "see", 2, 9, 9, 27).due(8, "brick", 2, 5)
            .due(3, "see", 2, 9, 9, 28).due(0, "brick", 2, 5);
    }

    @Says(under = "Promise 21", words = "UNKNOWN: brick (a FIGURE, too)")
    static void p21_unknown_theLastFigureAndOneBeyondTheTop() {
        for (int i = 0; i < PILES.length; i++) {
            int wide = i + 2;
            Run.of(PILES[i]).refused(UNKNOWN, "see", wide - 1, 0, 0, 0).refused(UNKNOWN, "see", SIZES[i], 0, 0, 0)
                .refused(UNKNOWN, "see", 0, 0, 0, 0).refused(UNKNOWN, "see", -1, 0, 0, 0)
                .refused(UNKNOWN, "see", LOW, 0, 0, 0).refused(UNKNOWN, "see", HIGH, 0, 0, 0)
                .due(1, "see", wide, 0, 0, 0).due(2, "see", SIZES[i] - 1, 0, 0, 0);
        }
    }

    @Says(under = "Promise 21", words = "OUTSIDE: left, right (0 to 9), number (0 to 30)")
    static void p21_outside_left() {
        Run.busy().due(3, "see", 5, 0, 0, 0).due(4, "see", 5, 9, 0, 0).refused(OUTSIDE, "see", 5, -1, 0, 0)
            .refused(OUTSIDE, "see", 5, 10, 0, 0).refused(OUTSIDE, "see", 5, LOW, 0, 0)
            .refused(OUTSIDE, "see", 5, HIGH, 0, 0);
    }

    @Says(under = "Promise 21", words = "OUTSIDE: left, right (0 to 9), number (0 to 30)")
    static void p21_outside_right() {
        Run.busy().due(3, "see", 5, 0, 0, 0).due(4, "see", 5, 0, 9, 0).refused(OUTSIDE, "see", 5, 0, -1, 0)
            .refused(OUTSIDE, "see", 5, 0, 10, 0).refused(OUTSIDE, "see", 5, 0, LOW, 0)
            .refused(OUTSIDE, "see", 5, 0, HIGH, 0);
    }

    @Says(under = "Promise 21", words = "OUTSIDE: left, right (0 to 9), number (0 to 30)")
    static void p21_outside_number() {
        Run.busy().due(3, "see", 5, 0, 0, 0).due(4, "see", 5, 0, 0, 30).refused(OUTSIDE, "see", 5, 0, 0, -1)
            .refused(OUTSIDE, "see", 5, 0, 0, 31).refused(OUTSIDE, "see", 5, 0, 0, LOW)
            .refused(OUTSIDE, "see", 5, 0, 0, HIGH);
    }

    @Says(under = "Promise 21", words = "FULL.")
    static void p21_full_the6thIsSeenThe7thIsNot() {
        sixSeen().refused(FULL, "see", 2, 1, 9, 10).refused(FULL, "see", 2, 1, 9, 11).due(1, "brick", 2, 5)
            .due(6, "count", 7);
    }

    @Says(under = "Promise 21", words = "FULL.")
    static void p21_full_ofAllBricksTogether() {
        Run run = Run.of(Run.FOUR);
        for (int many = 1; many <= 6; many++) {
            run.due(many, "see", many + 3, 9, 9, 27);
        }
        for (int brick = 4; brick <= 9; brick++) {
            run.refused(FULL, "see", brick, 9, 9, 27).due(8, "brick", brick, 5);
        }
    }

    @Says(under = "Promise 21", words = "FULL.")
    static void p21_full_noMoreBehindForgetRestoreOrAnotherPile() {
        sixSeen().due(6, "forget").due(1, "see", 2, 1, 1, 1);
        Run.of(Run.TWO).due(0, "image").often(6, "see", 2, 1, 1, 1).refused(FULL, "see", 2, 1, 1, 1)
            .due(0, "restore").due(1, "see", 2, 1, 1, 2);
        sixSeen().type(Run.THREE).due(6, "pile").due(1, "see", 3, 1, 1, 1);
    }

    @Says(under = "Promise 21", words = "FULL.")
    static void p21_full_behindAnImageOfSix() {
        sixSeen().due(0, "image").due(6, "forget").due(1, "see", 2, 1, 1, 1).due(0, "restore").due(1, "brick", 2, 5)
            .refused(FULL, "see", 2, 1, 1, 1);
    }

    @Says(under = "Promise 21",
        words = "UNKNOWN: brick (a FIGURE, too); OUTSIDE: left, right (0 to 9), number (0 to 30); FULL.")
    static void p21_unknownComesAheadOfOutsideAndThatAheadOfFull() {
        Run.busy().refused(UNKNOWN, "see", 3, 10, 0, 0).refused(UNKNOWN, "see", 10, 0, -1, 0)
            .refused(UNKNOWN, "see", -1, 0, 0, 31);
        Run.fresh().refused(UNKNOWN, "see", 2, 10, 10, 31);
        sixSeen().refused(UNKNOWN, "see", 1, 0, 0, 0).refused(UNKNOWN, "see", 3, 10, -1, 31)
            .refused(OUTSIDE, "see", 2, 10, 0, 0).refused(OUTSIDE, "see", 2, 0, -1, 0)
            .refused(OUTSIDE, "see", 2, 0, 0, 31).refused(FULL, "see", 2, 0, 0, 30);
    }

    @Says(under = "Promise 22", words = "Nothing is SEEN any more: how much was.")
    static void p22_forget_nothing() {
        Run.fresh().due(0, "forget").due(0, "count", 7);
        Run.of(Run.TWO).due(0, "forget").due(0, "forget").due(31, "brick", 2, 5);
    }

    @Says(under = "Promise 22", words = "Nothing is SEEN any more: how much was.")
    static void p22_forget_asMuchAsCanBe() {
        sixSeen().due(6, "forget").due(0, "count", 7).due(31, "brick", 2, 5).due(18, "brick", 2, 6).due(0, "forget");
    }

    @Says(under = "Promise 22", words = "Nothing is SEEN any more: how much was.")
    static void p22_forget_whatIsToldAndTheImageStay() {
        Run.busy().due(2, "forget").due(3, "count", 4).due(1, "restore").due(1, "count", 7).due(1, "brick", 9, 5);
    }

    @Says(under = "Promise 23", words = "OUTSIDE: times (1 to 60), seed (0 at least), what")
    static void p23_outside_timesBeyondTheLeastAndTheGreatest() {
        drawnAs(Run.TWO, 1, 7);
        drawnAs(Run.TWO, 60, 7);
        drawnAs("4;www,ww,w;0000", 60, 7);
        Run.busy().refused(OUTSIDE, "drawn", 0, 0, 0).refused(OUTSIDE, "drawn", 61, 0, 0)
            .refused(OUTSIDE, "drawn", -1, 0, 1).refused(OUTSIDE, "drawn", LOW, 0, 2)
            .refused(OUTSIDE, "drawn", HIGH, 0, 2);
    }

    @Says(under = "Promise 23", words = "OUTSIDE: times (1 to 60), seed (0 at least), what")
    static void p23_outside_seedsBeyondTheLeast() {
        drawnAs(Run.THREE, 2, 0);
        drawnAs(Run.THREE, 2, HIGH);
        Run.busy().refused(OUTSIDE, "drawn", 1, -1, 0).refused(OUTSIDE, "drawn", 1, LOW, 2);
    }

    @Says(under = "Promise 23", words = "OUTSIDE: times (1 to 60), seed (0 at least), what")
    static void p23_outside_whatBeyondTheLeastAndTheGreatest() {
        Run.busy().refused(OUTSIDE, "drawn", 1, 0, -1).refused(OUTSIDE, "drawn", 1, 0, 3)
            .refused(OUTSIDE, "drawn", 60, HIGH, LOW).refused(OUTSIDE, "drawn", 60, HIGH, HIGH);
    }

    @Says(under = "Promise 23", words = "STATE: no PILE.")
    static void p23_state_noPile() {
        Run.page(Run.TWO).refused(STATE, "drawn", 1, 0, 0).refused(STATE, "drawn", 60, HIGH, 2).due(3, "pile")
            .due(seedBehind(0, 2), "drawn", 1, 0, 2);
    }

    @Says(under = "Promise 23", words = "OUTSIDE: times (1 to 60), seed (0 at least), what; STATE: no PILE.")
    static void p23_outsideComesAheadOfState() {
        Run.fresh().refused(OUTSIDE, "drawn", 0, 0, 0).refused(OUTSIDE, "drawn", 61, 0, 0)
            .refused(OUTSIDE, "drawn", 1, -1, 0).refused(OUTSIDE, "drawn", 1, 0, 3).refused(STATE, "drawn", 1, 0, 0);
    }

    @Says(under = "Terms", words = "its rest by 2 to the 31; then that by 65536 (rounded down), its rest")
    static void p23_draws_theLeastAndTheGreatestSeedThatComes() {
        firstDrawIs(0, 0);
        firstDrawIs(HIGH, 7); // 32767 and some
    }

    @Says(under = "Terms", words = "its rest by 2 to the 31; then that by 65536 (rounded down), its rest")
    static void p23_draws_roundedDownAndTheRestByTen() {
        firstDrawIs(65535, 0);
        firstDrawIs(65536, 1);
        firstDrawIs(10 * 65536 - 1, 9);
        firstDrawIs(10 * 65536, 0);
    }

    @Says(under = "Terms", words = "so many times each FIGURE, from left to right, is a DRAW of 10")
    static void p23_draws_asTheyWouldBe() {
        Run run = Run.busy();
        long before = run.ask("digest");
        run.ask("drawn", 60, 971, 0);
        run.ask("drawn", 60, 971, 1);
        run.due(seedBehind(971, 240), "drawn", 60, 971, 2).due(before, "digest");
    }

    /** Where the first seed that comes is this one, the left figure is that: it alone makes the top, being so twice. */
    private static void firstDrawIs(int comes, int digit) {
        BigInteger seed = BigInteger.valueOf(comes).subtract(MORE).multiply(FACTOR.modInverse(MODULUS)).mod(MODULUS);
        int from = seed.intValueExact();
        int right = drawBy(seedBehind(comes, 1));
        Run.of("2;w;00").due(2 * digit + right, "drawn", 1, from, 0).due(2 * digit + right, "drawn", 1, from, 1)
            .due(seedBehind(comes, 1), "drawn", 1, from, 2);
    }

    private static int seedBehind(int seed, int draws) {
        BigInteger next = BigInteger.valueOf(seed);
        for (int draw = 0; draw < draws; draw++) {
            next = next.multiply(FACTOR).add(MORE).mod(MODULUS);
        }
        return next.intValueExact();
    }

    private static int drawBy(int seed) {
        return seed / 65536 % 10;
    }

    /** Puts the draws as figures into another object, and holds its tops against what is drawn. */
    private static void drawnAs(String text, int times, int seed) {
        Run shown = Run.of(text);
        int wide = (int) shown.ask("count", 0);
        int together = 0;
        int greatest = 0;
        for (int draw = 0; draw < times * wide; draw++) {
            int top = (int) shown.ask("put", draw % wide, drawBy(seedBehind(seed, draw + 1)));
            together += draw % wide == wide - 1 ? top : 0;
            greatest = draw % wide == wide - 1 ? Math.max(greatest, top) : greatest;
        }
        Run.of(text).due(together, "drawn", times, seed, 0).due(greatest, "drawn", times, seed, 1)
            .due(seedBehind(seed, times * wide), "drawn", times, seed, 2);
    }
}
