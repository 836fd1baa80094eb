import com.sun.management.ThreadMXBean;
import java.lang.management.ManagementFactory;

/** All calls of a run live in one room: what objects and calls make is measured. */
public final class RoomTest {
    private static final ThreadMXBean ROOM = (ThreadMXBean) ManagementFactory.getThreadMXBean();
    /** Of the room's 7.3 million fields and elements, at eight bytes for the dearest. */
    private static final long OBJECT_LIMIT = 100_000;
    private static final long RUN_LIMIT = 1_000_000;

    public static void main(String[] args) {
        long sum = 0;
        for (int i = 0; i < 3; i++) {
            sum += run(i);
        }
        long before = taken();
        RedGlass x = new RedGlass();
        long object = taken() - before;
        before = taken();
        sum += run(3) + x.count(0);
        long run = taken() - before;
        System.out.println("an object takes " + object + " bytes, a run of its dearest calls " + run + " (" + sum + ")");
        if (object > OBJECT_LIMIT || run > RUN_LIMIT) {
            System.out.println("that is more than " + OBJECT_LIMIT + ", " + RUN_LIMIT);
            System.exit(1);
        }
    }

    private static long taken() {
        return ROOM.getThreadAllocatedBytes(Thread.currentThread().getId());
    }

    private static long run(int seed) {
        RedGlass x = new RedGlass();
        long sum = 0;
        for (int i = 0; i < 25; i++) {
            sum += x.image(i % 2);
            sum += x.feed(0x77696C6C, 0x20726F63, 0x6B2B746F, 0x2A666172, 0x2F332020);
            sum += x.feed(0x3B626172, 0x73206966, 0x20666172, 0x3E332020, 0x20202020);
            sum += x.law() + x.force(0) + x.terms(1, i % 10);
            sum += x.report(i % 9, i, i % 2) + x.lies() + x.ways() + x.could(5) + x.likely(i, 1) + x.liars(1);
            sum += x.round(0, 0, 511, 3) + x.reach(0, 0, 8) + x.guard(0, 0, 59, 7) + x.unwarned();
            sum += x.search(6, 0) + x.year(seed + i, 0) + x.back(i % 2);
        }
        return sum;
    }
}
