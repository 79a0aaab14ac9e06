import com.sun.management.ThreadMXBean;
import java.lang.management.ManagementFactory;

/** No call makes anything: all calls of a run live in one room, and only making an object takes some of it. */
public final class RoomTest {
    private static final int MOST_BYTES_OF_ONE = 16_000;

    private static long sum;

    public static void main(String[] args) {
        ThreadMXBean threads = (ThreadMXBean) ManagementFactory.getThreadMXBean();
        HandRelay x = new HandRelay();
        long self = Thread.currentThread().getId();
        // The first round loads what the machine itself needs.
        allCalls(x);
        threads.getThreadAllocatedBytes(self);
        long before = threads.getThreadAllocatedBytes(self);
        for (int round = 0; round < 50; round++) {
            allCalls(x);
        }
        long between = threads.getThreadAllocatedBytes(self);
        HandRelay other = new HandRelay();
        long behind = threads.getThreadAllocatedBytes(self);
        allCalls(other);
        Check.due("bytes that 50 rounds of all calls made", between - before < 50);
        Check.due("bytes of an object: " + (behind - between), behind - between < MOST_BYTES_OF_ONE);
        Check.due("the calls answered", sum != 0);
        Check.end();
    }

    private static void allCalls(HandRelay x) {
        x.people(6);
        for (int m = 0; m < 14; m++) {
            sum += x.meet(m, m % 6, (m + 1) % 6, 50) + x.renew(m, 0, m) + x.meeting(m, 0);
        }
        sum += x.drop(13) + x.delay(0) + x.ask(0, 5, 0) + x.image();
        feed(x, 'a');
        feed(x, 's');
        feed(x, 'k');
        sum += x.read();
        for (int k = -2; k < 12; k++) {
            sum += x.way(0, k) + x.holder(1, k) + x.sureness(2, k) + x.reach(k) + x.by(k) + x.agenda(k) + x.rank(k);
            sum += x.between(0, k) + x.told(k) + x.cut(2 * k) + x.fits(k) + x.odds(k) + x.mean(k) + x.after(k);
            sum += x.see(0, 0, true) + x.event(1, 1) + x.book(0, 0) + x.looked() + x.count(k);
            sum += x.tape(0, 0, 9) + x.item(0, 1, k) + x.peek(0, 1) + x.shift(0, 1, 0, 2, 3) + x.judge(0, k);
        }
        sum += x.undo();
    }

    private static void feed(HandRelay x, int sign) {
        sum += x.feed(sign);
    }
}
