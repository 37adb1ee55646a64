import com.sun.management.ThreadMXBean;
import java.lang.management.ManagementFactory;

/** All calls of a run live in one room that is never swept: only the constructor may make objects, no call. */
public final class RoomTest {
    private static final int ROUNDS = 2000;

    private RoomTest() {
    }

    private static long everyCall(CreditShelf x, int round) {
        long sum = 0;
        for (int i = 0; i < 40; i++) {
            sum += x.put(i % 5 == 4 ? 0 : i % 5, (7 * i + round) % 100, i);
        }
        for (int what = 0; what < 8; what++) {
            sum += x.entry(x.at(what), what) + x.ledger(what) + x.count(what) + x.as(x.at(what), what);
        }
        sum += x.image() + x.dear(0) + x.dear(1) + x.ahead() + x.would(50) + x.next(round % 100) + x.flatten();
        sum += x.replay(2, 3, 0) + x.replay(4, 5, 1) + x.drawn(60, round, 0) + x.digest();
        sum += x.see(7, round % 4, true) + x.sorts(7, 0) + x.sorts(7, 1) + x.forget();
        for (int key = 0; key < 100; key++) {
            sum += x.take(key) + x.tell(key);
        }
        sum += x.digest() + x.restore() + x.letter('2') + x.letter('3') + x.fault() + x.blank();
        String text = "23;1;n40=0,n30=0,n20=0,n10=0,n00=0";
        for (int i = 0; i < text.length(); i++) {
            sum += x.letter(text.charAt(i));
        }
        return sum + x.fault() + x.shelf();
    }

    public static void main(String[] args) {
        ThreadMXBean bean = (ThreadMXBean) ManagementFactory.getThreadMXBean();
        long self = Thread.currentThread().getId();
        CreditShelf x = new CreditShelf();
        long sum = everyCall(x, 0);
        bean.getThreadAllocatedBytes(self);
        long before = bean.getThreadAllocatedBytes(self);
        for (int round = 1; round <= ROUNDS; round++) {
            sum += everyCall(x, round);
        }
        long made = bean.getThreadAllocatedBytes(self) - before;
        System.out.println("RoomTest: " + made + " bytes for " + ROUNDS + " rounds (sum " + sum + ")");
        // one object a call would be some millions of bytes; the measuring itself may make a little
        Check.holds("no call makes an object", made < 100000);
        before = bean.getThreadAllocatedBytes(self);
        new CreditShelf();
        Check.holds("a new object takes some 12000 bytes", bean.getThreadAllocatedBytes(self) - before < 20000);
        Check.end("RoomTest");
    }
}
