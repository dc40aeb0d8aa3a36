import com.sun.management.ThreadMXBean;
import java.lang.management.ManagementFactory;

/** All calls of a run share one room: what is made in it is weighed here, in bytes, of which an element is 4 or 8. */
public final class RoomTest {
    private static Check check = new Check();
    private static final ThreadMXBean BEAN = (ThreadMXBean) ManagementFactory.getThreadMXBean();
    private static final long ID = Thread.currentThread().getId();

    private static long made() {
        return BEAN.getThreadAllocatedBytes(ID);
    }

    private static void busy(SampleHouse x, int round) {
        int node = round % 8;
        x.colour(node, round & 1);
        x.kind((round + 3) % 8, round % 5);
        x.link(node, (node + 1) % 8, (round & 2) == 0);
        x.query(node, 7 << (node + 1) % 5);
        x.would(0, 14);
        x.run(300, round);
        x.polls(100, round);
        x.poll(0, round % 16, 14);
        x.yes(1, round % 16, 13);
        x.exact(3, 1);
        x.colours(3, 2);
        x.odds(2);
        x.soonest();
        x.way(1, 1);
        x.count(10);
        x.count(11);
        x.of(round % 16, 6);
        x.alike(0, 1);
        x.back();
        x.chain(3, 2);
    }

    private static SampleHouse prepared() {
        SampleHouse x = new SampleHouse();
        x.group(8, 3, 2, 2);
        x.protocol(2);
        for (int i = 0; i < 8; i++) {
            x.colour(i, i & 1);
        }
        for (int i = 0; i < 16; i++) {
            x.entry(i % 8, i - 1, -1);
        }
        return x;
    }

    public static void main(String[] args) {
        long empty = -made() + made();
        busy(prepared(), 0);
        long before = made();
        SampleHouse first = new SampleHouse();
        long bare = made() - before - empty;
        check.due("a new object: " + bare + " bytes, at most 40000", true, bare <= 40_000 && first.count(0) == 4);
        before = made();
        SampleHouse x = prepared();
        busy(x, 0);
        long whole = made() - before - empty;
        check.due("with all its rows: " + whole + " bytes, at most 600000", true, whole <= 600_000);
        before = made();
        for (int round = 1; round <= 25; round++) {
            busy(x, round);
        }
        long more = made() - before - empty;
        check.due("500 calls more: " + more + " bytes, at most 1000", true, more <= 1_000);
        before = made();
        for (int round = 0; round < 256; round++) {
            x.group(8, 1 + round % 7, 1 + round % 7, 1);
            x.chain(1, 3);
        }
        more = made() - before - empty;
        check.due("256 chains: " + more + " bytes, at most 3000000", true, more <= 3_000_000);
        check.end("RoomTest");
    }
}
