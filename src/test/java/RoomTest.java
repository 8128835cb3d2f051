import com.sun.management.ThreadMXBean;
import java.lang.management.ManagementFactory;

/** The calls of a run share one small room: making an object is cheap, and its calls make nothing. */
public final class RoomTest {
    private static final Due DUE = new Due("RoomTest");
    private static final ThreadMXBean MEMORY = (ThreadMXBean) ManagementFactory.getThreadMXBean();
    private static final int LEDGERS = 20;
    private static final int ROUNDS = 34;

    private RoomTest() {
    }

    public static void main(String[] args) {
        allocated();
        ProvenLedger[] ledgers = new ProvenLedger[LEDGERS];
        long before = allocated();
        for (int i = 0; i < LEDGERS; i++) {
            ledgers[i] = new ProvenLedger();
        }
        long made = (allocated() - before) / LEDGERS;
        DUE.isTrue("a new object takes " + made + " bytes", made < 40000);
        before = allocated();
        long sum = 0;
        for (int i = 0; i < LEDGERS * ROUNDS; i++) {
            sum += fifteenCalls(ledgers[i / ROUNDS], i);
        }
        long more = allocated() - before;
        DUE.isTrue("the calls take " + more + " bytes", more < 2000);
        DUE.isTrue("the calls have done something", sum != 0);
        DUE.end();
    }

    private static long fifteenCalls(ProvenLedger x, int i) {
        int account = i * 0x1011 & 65535;
        long sum = x.grant(account, 1000L * i);
        sum += x.send(account, account ^ 1, 5, 1, x.nonce(account));
        sum += x.root(0) + x.nodes(2) + x.size() + x.prove(account) + x.length(0) + x.part(0, 0);
        sum += x.check(account) + x.proven(1) + (x.alter(0, 0, 1) ? 1 : 0) + x.shorten();
        return sum + (i % 3 == 0 && x.close(account) ? 1 : 0) + (x.collector(account) ? 1 : 0);
    }

    private static long allocated() {
        return MEMORY.getThreadAllocatedBytes(Thread.currentThread().getId());
    }
}
