import com.sun.management.ThreadMXBean;
import java.lang.management.ManagementFactory;

/** All calls of a run live in one room: a new object is small, and no call makes anything. */
public final class RoomTest {
    private static final int ROUNDS = 300;
    private static final long MOST_FOR_AN_OBJECT = 32_768, MOST_FOR_ALL_CALLS = 65_536;
    private static final String TEXT = "w0,9;r3,2;s0,1;b5,3;h0,2;d0,1;r1,2;b2,1;s0,4;";

    private static final Check check = new Check("RoomTest");

    public static void main(String[] args) {
        ThreadMXBean meter = (ThreadMXBean) ManagementFactory.getThreadMXBean();
        long self = Thread.currentThread().getId();
        char[] text = TEXT.toCharArray();
        WinkCircle x = new WinkCircle();
        useAll(x, text);
        long start = meter.getThreadAllocatedBytes(self);
        x = new WinkCircle();
        long made = meter.getThreadAllocatedBytes(self);
        for (int round = 0; round < ROUNDS; round++) {
            useAll(x, text);
        }
        long end = meter.getThreadAllocatedBytes(self);
        check.holds("a new object takes " + (made - start) + " bytes", made - start <= MOST_FOR_AN_OBJECT);
        check.holds("all calls take " + (end - made) + " bytes", end - made <= MOST_FOR_ALL_CALLS);
        check.end();
    }

    private static void useAll(WinkCircle x, char[] text) {
        for (char c : text) {
            x.feed(c);
        }
        x.circle();
        x.fault();
        for (int row = 0; row < 8; row++) {
            x.row(row, 0, 40);
            x.set(row, 39, 5);
        }
        x.copy(0, 0, 1, 1, 39);
        x.ticks(24);
        x.turnHead(0, 4);
        x.role(1);
        x.proof(3);
        x.rise(2);
        x.undo();
        foretell(x);
        x.image(0);
        x.restore(0);
        x.kind(0);
        x.as(0, 1);
        x.ask(1, 0);
        x.trace(0);
        x.count(0);
        x.status();
        x.drop(3);
    }

    private static void foretell(WinkCircle x) {
        x.player(0, 5);
        x.stand(6);
        x.ahead(0, 60, 0);
        x.toll(60, 0);
        x.when(0, 2);
        x.out();
        x.meet(0, 1);
        x.bestRole(40, 0);
        x.glance(40, 0);
        x.pass(40);
        x.sets(3, 0);
        x.share(0, 99);
        x.byTurns(3, 20);
        for (int which = 0; which < 4; which++) {
            x.who(0, which, 0, 0, 12);
        }
        x.sleep(60, 5, 0);
        x.drawn(60, 7, 0);
    }
}
