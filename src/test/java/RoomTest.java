import java.lang.management.ManagementFactory;

/** All calls of a run live in one room: an object with its 512 dearest calls has to stay small in it. */
public final class RoomTest {
    private static final int CALLS = 512;
    private static final long NEW_OBJECT = 64 * 1024;
    private static final long RUN = 256 * 1024;

    private static long bytes() {
        return ((com.sun.management.ThreadMXBean) ManagementFactory.getThreadMXBean()).getCurrentThreadAllocatedBytes();
    }

    public static void main(String[] args) {
        takenByRun();
        long start = bytes();
        new ShelfSlots();
        long made = bytes() - start;
        long run = takenByRun();
        boolean small = made <= NEW_OBJECT && run <= RUN;
        System.out.println((small ? "small enough: " : "too large: ") + made + " bytes for an object, " + run + " for a run");
        if (!small) {
            System.exit(1);
        }
    }

    /** Twelve picks of full baskets a day, nights with nine moves, texts, undo and saved states by turns. */
    private static long takenByRun() {
        long start = bytes();
        ShelfSlots x = new ShelfSlots();
        for (int n = 0; n < 16; n++) {
            x.good(29 - n);
        }
        x.set(0, 9);
        for (int n = 17; n < CALLS; n++) {
            oneOf(x, n);
        }
        return bytes() - start;
    }

    private static void oneOf(ShelfSlots x, int n) {
        switch (n % 24) {
            case 0: x.night(); break;
            case 1: x.bestSwap(1); break;
            case 2: x.shortest(63 << n % 11); break;
            case 3: x.put(0x6E3B6E3B6E3B6EL); break;
            case 4: x.carryOut(); break;
            case 5: x.save(n & 1); break;
            case 6: x.restore(n & 1); break;
            case 7: x.undo(); break;
            case 8: x.meanSpeed(); break;
            case 9: x.ifSwapped(n % 30, 3); break;
            case 10: x.count(7); break;
            case 11: x.badly(); break;
            default: x.pick(63 << n % 11); break;
        }
    }
}
