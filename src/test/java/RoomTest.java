import com.sun.management.ThreadMXBean;
import java.lang.management.ManagementFactory;

/** What a run of 512 dear calls makes: nothing beyond the desk itself. */
final class RoomTest {
    private static final int CALLS = 512;

    public static void main(String[] args) {
        ThreadMXBean memory = (ThreadMXBean) ManagementFactory.getThreadMXBean();
        long self = Thread.currentThread().getId();
        dearRun();
        long before = memory.getThreadAllocatedBytes(self);
        long found = dearRun();
        long made = memory.getThreadAllocatedBytes(self) - before;
        System.out.println("bytes made in a run: " + made);
        Due.same("the answers of the dear run", true, found > 0);
        // Six rows of numbers and their like are some 5,000 bytes; the room holds some 60,000,000.
        Due.same("a run makes less than 20,000 bytes", true, made < 20_000);
        Due.end("RoomTest");
    }

    /** Everything is told anew ahead of each question, so that each one is reckoned. */
    private static long dearRun() {
        CrashDesk x = new CrashDesk();
        long found = 0;
        for (int i = 0; i < 10; i++) {
            x.tale(i % 2, i % 3, i, 50);
        }
        for (int i = 0; i < 12; i++) {
            x.skid(i % 2, i % 4 < 2, 0, 2000, 0, 150);
        }
        for (int call = 24; call < CALLS; call += 2) {
            x.mass(call / 2 % 2, 1);
            if (call % 16 == 0) {
                x.sure(1, 2, call % 32 == 0 ? -50 : -49, call % 32 == 0 ? -50 : 50);
                found += x.odds();
            } else if (call % 16 == 2) {
                found += x.which();
            } else {
                found += x.ways();
            }
        }
        return found;
    }
}
