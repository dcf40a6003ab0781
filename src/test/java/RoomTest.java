import com.sun.management.ThreadMXBean;
import java.lang.management.ManagementFactory;

/** What a run of 512 dear calls makes: it stays within the room that all calls of one run live in. */
final class RoomTest {
    private static final int CALLS = 512;

    public static void main(String[] args) {
        ThreadMXBean memory = (ThreadMXBean) ManagementFactory.getThreadMXBean();
        long self = Thread.currentThread().getId();
        dearRun();
        long before = memory.getThreadAllocatedBytes(self);
        long found = dearRun();
        long made = memory.getThreadAllocatedBytes(self) - before;
        System.out.println("bytes made in a run: " + made);
        Due.same("the answers of the dear run", true, found > 0);
        // 7.3 million elements are this much at four bytes each.
        Due.same("a run makes less than 29,200,000 bytes", true, made < 29_200_000);
        Due.end("RoomTest");
    }

    /** Everything is told anew ahead of each question, so that each one is reckoned. */
    private static long dearRun() {
        CrashDesk x = new CrashDesk();
        long found = 0;
        for (int i = 0; i < 10; i++) {
            x.tale(i % 2, i % 3, i, 50);
        }
        for (int i = 0; i < 12; i++) {
            x.skid(i % 2, i % 4 < 2, 0, 2000, 0, 150);
        }
        for (int call = 22; call < CALLS; call += 2) {
            if (call % 16 == 0) {
                x.sure(1, 2, call % 32 == 0 ? -50 : -49, call % 32 == 0 ? -50 : 50);
            } else {
                x.mass(call / 2 % 2, 1);
            }
            found += call % 16 == 0 ? x.odds() : call % 16 == 2 ? x.which() : x.ways();
        }
        return found;
    }
}
