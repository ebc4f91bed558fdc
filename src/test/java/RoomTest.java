import java.lang.management.ManagementFactory;

/** The room of a run: a new object is small, and no call makes anything. */
public final class RoomTest {
    private static final String HARBOUR = "h504 s20534 b40219 p10045 r35116 f48777 g05998";

    public static void main(String[] args) {
        Due due = new Due("RoomTest");
        com.sun.management.ThreadMXBean threads = (com.sun.management.ThreadMXBean) ManagementFactory.getThreadMXBean();
        long id = Thread.currentThread().getId();
        BerthAges x = new BerthAges();
        long ofObject = Long.MAX_VALUE;
        long ofCalls = Long.MAX_VALUE;
        // The least of several readings: the machine's own work may fall into one of them.
        for (int reading = 0; reading < 5; reading++) {
            long before = threads.getThreadAllocatedBytes(id);
            every(x);
            long between = threads.getThreadAllocatedBytes(id);
            x = new BerthAges();
            ofCalls = Math.min(ofCalls, between - before);
            ofObject = Math.min(ofObject, threads.getThreadAllocatedBytes(id) - between);
        }
        due.is("a new object takes at most 8 KiB, not " + ofObject, ofObject <= 8192 ? 1 : 0, 1);
        due.is("bytes that all calls together make", ofCalls, 0);
        due.end();
    }

    /** Every call of the face, the dearest ones in their dearest state. */
    private static long every(BerthAges x) {
        long sum = x.text(0, HARBOUR.length());
        for (int i = 0; i < HARBOUR.length(); i++) {
            sum += x.put(0, i, HARBOUR.charAt(i));
        }
        sum += x.fault(0) + x.harbour(0) + x.enter(0) + x.order(0) + x.row(1, 40) + x.lay(1, 0, 50) + x.at(1, 0);
        sum += x.copy(1, 0, 1, 1, 39) + x.mean(1) + x.ship(0, 7) + x.mark(4, 4) + x.age(0, 999);
        sum += x.come(0) + x.leave(0) + x.pay(5) + x.tea(4) + x.tide() + x.year() + x.keep(0) + x.undo(2) + x.on(0);
        sum += x.lots(20, 4711) + x.berths(2) + x.hours(3) + x.ground() + x.wrong(2) + x.row(3, 0) + x.kinds(5, 3);
        sum += x.test(5, 3) + x.duel(5) + x.odds(2, 3, 5) + x.mid(2, 5) + x.asked() + x.upper() + x.lower();
        for (int i = 0; i < 6; i++) {
            for (int k = 0; k < 6; k++) {
                sum += x.when(i, k) + x.built(i, k) + x.least(i, k);
            }
        }
        return sum + x.count(6) + x.finding() + x.findings(1) + x.tear(9) + x.tear(1) + x.digest();
    }
}
