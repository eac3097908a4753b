import com.sun.management.ThreadMXBean;
import java.lang.management.ManagementFactory;

/** What is made is made with the object: its calls take no room, but for two images. */
public final class RoomTest {
    private static final long OBJECT_BYTES = 24_000;
    private static final long CALLS_BYTES = 24_000;

    public static void main(String[] args) {
        ThreadMXBean room = (ThreadMXBean) ManagementFactory.getThreadMXBean();
        manyCalls(new NettleShirts());
        long start = room.getCurrentThreadAllocatedBytes();
        NettleShirts x = new NettleShirts();
        long made = room.getCurrentThreadAllocatedBytes();
        int sum = manyCalls(x);
        long end = room.getCurrentThreadAllocatedBytes();
        Check.holds("answers are given", sum != 0);
        Check.holds("an object takes " + (made - start) + " bytes", made - start <= OBJECT_BYTES);
        Check.holds("its calls take " + (end - made) + " bytes", end - made <= CALLS_BYTES);
        Check.end();
    }

    private static int manyCalls(NettleShirts x) {
        int sum = 0;
        sum += x.plot(5, 9) + x.plot(0, 8) + x.plot(2, 13);
        sum += x.shirt(1) + x.shirt(1) + x.shirt(7) + x.shirt(1);
        sum += x.law(0, 27) + x.law(0, 1) + x.law(1, 26) + x.law(1, 0);
        for (int k = 0; k < 4; k++) {
            sum += x.show(0, k + 1) + x.show(1, 5 - k);
        }
        for (int k = 0; k < 20; k++) {
            sum += x.night(k % 8) + x.sign(k % 4);
            sum += x.plan(5, k % 5) + x.inTime(5, k % 16, -1) + x.fewest(k % 16) + x.left(5, 1);
            sum += x.bare(4, 0) + x.met(1, 0) + x.silent() + x.lasts(k + 1, 0);
            sum += x.stings(k % 11, 12, 6) + x.surest(k % 11, 3, 1, 2);
            sum += x.type(0x6461792061623bL, 7) + x.image(k % 2) + x.read() + x.from(k % 2);
        }
        return sum;
    }
}
