import com.sun.management.ThreadMXBean;
import java.lang.management.ManagementFactory;

/** Runs of calls that make as much as they can: all of one run live in one room. */
public final class RoomTest {
    private static final int CALLS = 512;
    /** A tenth of the room of 7.3 million elements, four bytes each. */
    private static final long MOST_BYTES = 2_900_000;
    private static final ThreadMXBean BEAN = (ThreadMXBean) ManagementFactory.getThreadMXBean();

    private static int wrong = 0;

    private RoomTest() {
    }

    public static void main(String[] args) {
        for (int way = 0; way < 6; way++) {
            run(way);
        }
        System.out.println(wrong == 0 ? "all runs have room" : wrong + " runs take too much room");
        if (wrong != 0) {
            System.exit(1);
        }
    }

    private static void run(int way) {
        String[] names = {"objects", "piles", "looks and needs", "digests", "images", "sights"};
        long before = BEAN.getCurrentThreadAllocatedBytes();
        NumberPile x = new NumberPile();
        int calls = read(x);
        for (int turn = 0; calls < CALLS; turn++) {
            calls++;
            switch (way) {
                case 0: x = new NumberPile(); break;
                case 1: calls += read(x); break;
                case 2: calls += lookAndNeed(x, turn); break;
                case 3: x.change(4, turn % 5); x.digest(); calls++; break;
                case 4: x.image(); x.restore(); calls++; break;
                default: x.see(4 + turn % 6, 1, 8, 7); x.forget(); calls++; break;
            }
        }
        long taken = BEAN.getCurrentThreadAllocatedBytes() - before;
        System.out.println(names[way] + ": " + taken + " bytes");
        if (taken > MOST_BYTES) {
            wrong++;
        }
    }

    private static int read(NumberPile x) {
        String text = "4;www,ww,w;9999";
        for (int i = 0; i < text.length(); i++) {
            x.letter(text.charAt(i));
        }
        x.pile();
        return text.length() + 1;
    }

    private static int lookAndNeed(NumberPile x, int turn) {
        x.look();
        x.need(turn, 0);
        x.tell(9, turn);
        x.fits(turn);
        x.odds(1, 3, 1);
        x.order(1);
        x.drawn(60, turn, 1);
        return 6;
    }
}
