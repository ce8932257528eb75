import com.sun.management.ThreadMXBean;
import java.lang.management.ManagementFactory;

/** All calls of a run live in one room: the dearest calls make nothing, and none takes too long. */
public final class RoomTest {
    private static final Check C = new Check();
    private static final ThreadMXBean ROOM = (ThreadMXBean) ManagementFactory.getThreadMXBean();

    public static void main(String[] args) {
        RingDisk warm = full();
        dearest(warm);
        long before = ROOM.getThreadAllocatedBytes(Thread.currentThread().getId());
        RingDisk x = new RingDisk();
        long made = ROOM.getThreadAllocatedBytes(Thread.currentThread().getId()) - before;
        C.due("a new object takes " + made + " bytes, not above 30000", made <= 30000, true);
        for (int i = 0; i < 6; i++) {
            warm.mark(i, false);
        }
        before = ROOM.getThreadAllocatedBytes(Thread.currentThread().getId());
        long sum = dearest(warm);
        long more = ROOM.getThreadAllocatedBytes(Thread.currentThread().getId()) - before;
        C.due("the dearest calls make " + more + " bytes, nearly none", more < 1000, true);
        C.due("they are the same calls", x.count(1) == 12 && sum != 0, true);
        C.end("RoomTest");
    }

    private static RingDisk full() {
        RingDisk x = new RingDisk();
        for (int r = 0; r < 12; r++) {
            x.ring(r, 1000 * (r * 7 % 12), r, 100 * (r + 1));
            for (int z = 0; z < 5; z++) {
                x.dust(r, z, 1000 + 77 * r + z);
            }
        }
        x.star(500, 20, 70);
        lay(x);
        return x;
    }

    private static void lay(RingDisk x) {
        StringBuilder laws = new StringBuilder("stick 1 to 9 when ring;drift 1 to 5 when ring;gather 1 to 9 when ring;"
                + "wander 1 to 9 when 1;");
        String[] kinds = {"stick", "break", "drift", "gather", "feed", "eat", "wander", "gap", "seen"};
        for (int i = 0; i < 20; i++) {
            laws.append(kinds[i % 9]).append(" 3 when ring*size-gas/3<all+dust or 1;");
        }
        Check.put(x, laws.toString());
        C.due("laws()", x.laws(), 0);
    }

    private static long dearest(RingDisk x) {
        long sum = 0;
        for (int i = 0; i < 6; i++) {
            sum += x.runs(40, 60, -1);
            sum += x.sure(100, 0, 11);
            sum += x.empty(11, 15);
            x.told(3, 100);
            sum += x.barred(0, 0);
            sum += x.steps(100);
            sum += x.back();
            x.mark(i, i % 2 == 0);
            for (int k = 0; k < 40; k++) {
                sum += x.feed(7237963439893655840L, 8604238611752230971L, 2334116303900778545L);
            }
            sum += x.laws();
        }
        return sum;
    }
}
