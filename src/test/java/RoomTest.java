import com.sun.management.ThreadMXBean;
import java.lang.management.ManagementFactory;

/** All calls of a run live in one room: calls make nothing, and an object little. */
public final class RoomTest {
    private static final Check check = new Check("RoomTest");
    private static long sum = 0;

    public static void main(String[] args) {
        ThreadMXBean threads = (ThreadMXBean) ManagementFactory.getThreadMXBean();
        long self = Thread.currentThread().getId();
        VoteWalls x = Check.yardOf("v30;05;10;15;20;25,p01,t07,b12,p13,t18,b22,p28,t29");
        threads.getThreadAllocatedBytes(self);
        long before = threads.getThreadAllocatedBytes(self);
        for (int k = 0; k < 100; k++) {
            dearest(x);
        }
        long made = threads.getThreadAllocatedBytes(self) - before;
        check.isTrue("100 rounds of the dearest calls make nothing: " + made, made < 20_000);
        before = threads.getThreadAllocatedBytes(self);
        VoteWalls another = new VoteWalls();
        made = threads.getThreadAllocatedBytes(self) - before;
        check.isTrue("an object is small: " + made, made < 10_000);
        sum += another.many(0);
        check.isTrue("the calls were made", sum != 0);
        check.end();
    }

    private static void dearest(VoteWalls x) {
        sum += x.odds(0, 7, 49, 0) + x.pushed(2, 29, 49) + x.apart(0, 7) + x.joined(0, 7);
        sum += x.game(0) + x.stood(3) + x.struck() + x.laws() + x.knocks(0, 0, 7) + x.rests();
        x.sheet(0, 2, 60);
        sum += x.walk(0, 2, 0, 50) + x.copy(0, 0, 0, 1, 59) + x.cell(0, 0, 2) + x.tell(2);
        sum += x.lock(0, 0, 49) + x.unlock(1) + x.strike(0, 0, 49) + x.eat(1);
    }
}
