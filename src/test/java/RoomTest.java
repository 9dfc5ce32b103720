import com.sun.management.ThreadMXBean;
import java.lang.management.ManagementFactory;
import java.util.Random;

/** Calls with any arguments in any state end without a throw, and make no objects. */
public final class RoomTest {
    private static final int RUNS = 400;
    private static final int CALLS = 512;
    private static final long ROOM_OF_AN_OBJECT = 100_000;
    // The virtual machine itself may make a few objects while it loads and compiles.
    private static final long ROOM_OF_ALL_CALLS = 300_000;

    private final Random random;
    private final LockWives x = new LockWives();

    private RoomTest(long seed) {
        random = new Random(seed);
    }

    public static void main(String[] args) {
        Check.part("room");
        new RoomTest(-1).play();
        ThreadMXBean threads = (ThreadMXBean) ManagementFactory.getThreadMXBean();
        long self = Thread.currentThread().getId();
        long calls = 0;
        long objects = 0;
        for (int run = 0; run < RUNS; run++) {
            long first = threads.getThreadAllocatedBytes(self);
            RoomTest test = new RoomTest(run);
            long second = threads.getThreadAllocatedBytes(self);
            test.play();
            long third = threads.getThreadAllocatedBytes(self);
            objects = Math.max(objects, second - first);
            calls += third - second;
        }
        System.out.println("an object takes " + objects + " bytes, " + (long) RUNS * CALLS + " calls " + calls);
        Check.due("an object takes little room", objects < ROOM_OF_AN_OBJECT, true);
        Check.due("calls take none", calls < ROOM_OF_ALL_CALLS, true);
        Check.finish("RoomTest");
    }

    private int any() {
        switch (random.nextInt(8)) {
            case 0: return random.nextInt();
            case 1: return Integer.MIN_VALUE + random.nextInt(60);
            case 2: return Integer.MAX_VALUE - random.nextInt(60);
            case 3: return random.nextInt(1100) - 50;
            default: return random.nextInt(30) - 2;
        }
    }

    private boolean either() {
        return random.nextBoolean();
    }

    private void play() {
        for (int i = 0; i < CALLS; i++) {
            if (random.nextInt(4) == 0) {
                change();
            } else if (either()) {
                act();
            } else {
                ask();
            }
        }
    }

    private void change() {
        switch (random.nextInt(12)) {
            case 0: x.state(any()); break;
            case 1: x.canal(random.nextInt(5) == 0 ? any() : -3); break;
            case 2: x.pool(any(), any()); break;
            case 3: x.lock(any(), any(), any()); break;
            case 4: x.boat(random.nextInt(4), random.nextInt(100), random.nextInt(11)); break;
            case 5: x.load(any(), any(), any()); break;
            case 6: x.set(any(), any()); break;
            case 7: x.feed(letters(), letters(), any(), letters(), letters()); break;
            case 8: x.end(any()); break;
            case 9: x.said(any(), any(), any()); break;
            case 10: x.tell(any(), any(), any()); break;
            default: text(); break;
        }
    }

    private int letters() {
        return 0x6c65743b;
    }

    private void text() {
        if (either()) {
            x.feed(0x686f6c64, 0x20776865, 0x6e206c69, 0x6b696e67, 0x3c313b20);
        } else {
            x.feed(0x70617373, 0x20302064, 0x6f776e3b, 0x70756c6c, 0x20302039);
            x.feed(0x3b202020, 0x20202020, 0x20202020, 0x20202020, 0x20202020);
        }
        x.text(random.nextInt(4));
        x.fault(any());
    }

    private void act() {
        switch (random.nextInt(7)) {
            case 0: x.pass(any(), either(), either() ? -1 : any()); break;
            case 1: x.give(any(), any(), any(), any()); break;
            case 2: x.pull(any(), any()); break;
            case 3: x.hours(any()); break;
            case 4: x.run(); break;
            case 5: x.undo(); break;
            default: x.image(either()); break;
        }
    }

    private void ask() {
        switch (random.nextInt(17)) {
            case 0: x.depth(any()); break;
            case 1: x.at(any(), any()); break;
            case 2: x.of(any(), any()); break;
            case 3: x.book(any(), any()); break;
            case 4: x.far(any(), either(), any()); break;
            case 5: x.please(any(), any(), any(), any()); break;
            case 6: x.range(any(), any()); break;
            case 7: x.pulled(any()); break;
            case 8: x.mend(any()); break;
            case 9: x.order(any(), either(), any()); break;
            case 10: x.share(any(), either()); break;
            case 11: x.later(any(), any(), any(), any()); break;
            case 12: x.envy(); break;
            case 13: x.smile(any()); break;
            case 14: x.planned(any()); break;
            case 15: x.look(any()); break;
            default: x.look(random.nextInt(50)); break;
        }
    }
}
