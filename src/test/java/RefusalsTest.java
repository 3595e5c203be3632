import java.util.ArrayList;
import java.util.List;

/**
 * "Refusals, of several the first as told by each call; they change nothing": each call with all that its numbers may
 * be at their ends and beyond, all together, without a pile, with a busy one, and with one that is full.
 */
public final class RefusalsTest {
    private static final int UNKNOWN = Run.UNKNOWN, OUTSIDE = Run.OUTSIDE, STATE = Run.STATE, FULL = Run.FULL;
    private static final int FINE = 0;
    private static final int WIDE = 3, SIZE = 6;
    private static final String[] READS = {"digest", "fault", "restore", "digest"};

    private static int wrong = 0;
    private static int asked = 0;

    private enum Way { NO_PILE, BUSY, FULL_OF_ALL }

    private RefusalsTest() {
    }

    public static void main(String[] args) {
        for (Way way : Way.values()) {
            long[] untouched = read(made(way));
            for (Call call : calls(way)) {
                hold(way, call, untouched);
            }
        }
        System.out.println(asked + " calls, " + wrong + " not as due");
        if (wrong != 0) {
            System.exit(1);
        }
    }

    private static Run made(Way way) {
        switch (way) {
            case NO_PILE: return Run.page("3;");
            case BUSY: return busy(Run.of(Run.THREE)).type("3;");
            default: return fullOfAll(busy(Run.of(Run.THREE)));
        }
    }

    private static Run busy(Run run) {
        run.ask("put", 0, 5);
        run.ask("tell", 5, 7);
        run.ask("see", 3, 2, 3, 7);
        run.ask("image");
        run.ask("exchange", 0, 2);
        run.ask("change", 4, 4);
        run.ask("tell", 0, 3);
        run.ask("see", 5, 5, 5, 5);
        run.ask("need", 4, 0);
        run.ask("look");
        return run;
    }

    private static Run fullOfAll(Run run) {
        for (int brick = 0; brick < SIZE; brick++) {
            run.ask("tell", brick, (int) run.ask("brick", brick, 1));
        }
        return run.often(4, "see", 4, 5, 5, 5).often(19, "need", 4, 0).often(19, "look").often(18, "letter", '3');
    }

    private static long[] read(Run run) {
        long[] answers = new long[READS.length];
        for (int i = 0; i < READS.length; i++) {
            answers[i] = run.ask(READS[i]);
        }
        return answers;
    }

    private static void hold(Way way, Call call, long[] untouched) {
        Run run = made(way);
        long got = run.ask(call.name, call.numbers);
        asked++;
        boolean isDue = call.due == FINE ? got > UNKNOWN : got == call.due;
        boolean isUntouched = call.due == FINE || java.util.Arrays.equals(read(run), untouched);
        if (!isDue || !isUntouched) {
            wrong++;
            System.out.println(way + ": " + call.name + java.util.Arrays.toString(call.numbers) + " answered " + got
                + (isDue ? ", and something changed" : ", due is " + (call.due == FINE ? "no refusal" : call.due)));
        }
    }

    /** A call and the refusal that is due, or FINE. */
    private static final class Call {
        private final String name;
        private final int[] numbers;
        private final int due;

        Call(String name, int due, int... numbers) {
            this.name = name;
            this.due = due;
            this.numbers = numbers;
        }
    }

    /** The first of these that is not FINE. */
    private static int first(int... refusals) {
        for (int refusal : refusals) {
            if (refusal != FINE) {
                return refusal;
            }
        }
        return FINE;
    }

    private static int unless(boolean holds, int refusal) {
        return holds ? FINE : refusal;
    }

    private static int within(int least, int number, int most, int refusal) {
        return unless(least <= number && number <= most, refusal);
    }

    /** The ends, and what is next to them, and the ends of int. */
    private static int[] about(int least, int most) {
        return new int[] {Integer.MIN_VALUE, least - 1, least, most, most + 1, Integer.MAX_VALUE};
    }

    private static List<Call> calls(Way way) {
        List<Call> calls = new ArrayList<>();
        boolean isFull = way == Way.FULL_OF_ALL;
        for (int code : about(1, 126)) {
            calls.add(new Call("letter", first(within(1, code, 126, OUTSIDE), unless(!isFull, FULL)), code));
        }
        for (int what : about(0, 11)) {
            calls.add(new Call("count", within(0, what, 11, OUTSIDE), what));
        }
        calls.add(new Call("pile", STATE));
        addCallsOfBricks(calls, way);
        addCallsOfFigures(calls, way);
        addCallsOfAPile(calls, way);
        return calls;
    }

    private static void addCallsOfBricks(List<Call> calls, Way way) {
        int size = way == Way.NO_PILE ? 0 : SIZE;
        int wide = way == Way.NO_PILE ? 0 : WIDE;
        for (int brick : new int[] {Integer.MIN_VALUE, -1, 0, WIDE - 1, WIDE, SIZE - 1, SIZE, Integer.MAX_VALUE}) {
            int unknown = within(0, brick, size - 1, UNKNOWN);
            int figureToo = within(wide, brick, size - 1, UNKNOWN);
            // busy ones have told of 0 and the top alone
            boolean isTold = way == Way.FULL_OF_ALL || brick == 0 || brick == SIZE - 1;
            calls.add(new Call("hush", first(unknown, unless(isTold, STATE)), brick));
            for (int what : about(0, 6)) {
                calls.add(new Call("brick", first(unknown, within(0, what, 6, OUTSIDE)), brick, what));
            }
            for (int kind : about(0, 4)) {
                calls.add(new Call("as", first(unknown, within(0, kind, 4, OUTSIDE)), brick, kind));
                calls.add(new Call("change", first(figureToo, within(0, kind, 4, OUTSIDE)), brick, kind));
            }
            for (int number : about(0, 999)) {
                calls.add(new Call("tell", first(unknown, within(0, number, 999, OUTSIDE)), brick, number));
            }
            for (int left : about(0, 9)) {
                for (int right : about(0, 9)) {
                    int outside = first(within(0, left, 9, OUTSIDE), within(0, right, 9, OUTSIDE));
                    calls.add(new Call("makes", first(figureToo, outside), brick, left, right));
                    for (int number : about(0, 30)) {
                        int due = first(figureToo, outside, within(0, number, 30, OUTSIDE),
                            unless(way != Way.FULL_OF_ALL, FULL));
                        calls.add(new Call("see", due, brick, left, right, number));
                    }
                }
            }
        }
    }

    private static void addCallsOfFigures(List<Call> calls, Way way) {
        int wide = way == Way.NO_PILE ? 0 : WIDE;
        for (int figure : about(0, WIDE - 1)) {
            int unknown = within(0, figure, wide - 1, UNKNOWN);
            calls.add(new Call("swing", unknown, figure));
            for (int other : about(0, WIDE - 1)) {
                int due = first(unknown, within(0, other, wide - 1, UNKNOWN), unless(figure != other, UNKNOWN));
                calls.add(new Call("exchange", due, figure, other));
            }
            for (int digit : about(0, 9)) {
                int outside = within(0, digit, 9, OUTSIDE);
                calls.add(new Call("put", first(unknown, outside), figure, digit));
                for (int what : about(0, 1)) {
                    int due = first(unknown, outside, within(0, what, 1, OUTSIDE));
                    calls.add(new Call("odds", due, figure, digit, what));
                }
            }
        }
    }

    private static void addCallsOfAPile(List<Call> calls, Way way) {
        int noPile = unless(way != Way.NO_PILE, STATE);
        int searched = unless(way == Way.BUSY, STATE);
        calls.add(new Call("left", noPile));
        calls.add(new Call("look", searched));
        calls.add(new Call("image", noPile));
        calls.add(new Call("restore", noPile));
        for (int number : about(0, 1000)) {
            calls.add(new Call("fits", first(unless(number >= 0, OUTSIDE), noPile), number));
        }
        for (int what : about(0, 1)) {
            int outside = within(0, what, 1, OUTSIDE);
            calls.add(new Call("order", first(outside, noPile), what));
            for (int number : about(0, 999)) {
                int due = first(within(0, number, 999, OUTSIDE), outside, searched);
                calls.add(new Call("need", due, number, what));
            }
        }
        for (int times : about(1, 60)) {
            for (int seed : new int[] {Integer.MIN_VALUE, -1, 0, Integer.MAX_VALUE}) {
                for (int what : about(0, 2)) {
                    int outside = first(within(1, times, 60, OUTSIDE), unless(seed >= 0, OUTSIDE),
                        within(0, what, 2, OUTSIDE));
                    calls.add(new Call("drawn", first(outside, noPile), times, seed, what));
                }
            }
        }
    }
}
