import com.sun.management.ThreadMXBean;
import java.lang.management.ManagementFactory;

/** One room for all calls: what a new object takes, that no call takes more, and that no call ever throws. */
public final class RoomTest {
    private static final Check CHECK = new Check("RoomTest");
    private static final int[] ODD = {Integer.MIN_VALUE, -2, -1, 0, 1, 2, 3, 4, 7, 8, 9, 10, 16, 31, 32, 33, 100, 800, 10_000, Integer.MAX_VALUE};

    public static void main(String[] args) {
        ThreadMXBean memory = (ThreadMXBean) ManagementFactory.getThreadMXBean();
        long thread = Thread.currentThread().getId();
        VectorDeal warm = started();
        everyCall(warm, 2);
        long before = memory.getThreadAllocatedBytes(thread);
        VectorDeal x = new VectorDeal();
        long made = memory.getThreadAllocatedBytes(thread) - before;
        CHECK.due("a new object takes at most 200,000 bytes, not " + made, made <= 200_000, true);
        CHECK.due("law", x.law(), 0);
        VectorDeal y = started();
        before = memory.getThreadAllocatedBytes(thread);
        everyCall(y, 3);
        long used = memory.getThreadAllocatedBytes(thread) - before;
        CHECK.due("calls take at most 2,000 bytes, not " + used, used <= 2_000, true);
        oddArguments();
        CHECK.finish();
    }

    private static VectorDeal started() {
        return Check.made("cpus 4;vectors 32;kept 0;device a single;device g group 4;device m managed 3;device h group 8;",
                "start a;start g;start m;raise a 0;raise m 2;move g 0 to 3;");
    }

    private static void everyCall(VectorDeal x, int rounds) {
        for (int i = 0; i < rounds; i++) {
            x.feed(0x7469636B, 0x20313B20, 0x20202020, 0x20202020, 0x20202020);
            x.end(7);
            x.orders();
            x.fault(0);
            x.refused();
            x.start(3);
            x.claim(3);
            x.stop(3);
            x.claim(3);
            x.raise(0, 0, i == 0);
            x.tick(3);
            x.move(0, 0, 15);
            x.unplug(1);
            x.plug(1);
            x.undo();
            x.redo();
            x.cpu(0, 5);
            x.vector(0, 1, 0);
            x.device(0, 2);
            x.line(0, 0, 0);
            x.spread(2, 0);
            x.room(4);
            x.balance();
            x.clear(4, 0);
            x.without(0, 1);
            x.storm(5, 500, 2);
            x.quiet();
            x.nearest();
            x.log(0, 0);
            x.alike(0, 1);
            x.law();
            x.image(0);
            x.back(0);
            x.about(13);
        }
        x.feed(0x63707573, 0x20323B20, 0x20202020, 0x20202020, 0x20202020);
        x.board();
    }

    /** Whatever the arguments and the state, a call answers: the machine would end this test if it threw. */
    private static void oddArguments() {
        int calls = 0;
        for (int a : ODD) {
            for (int b : ODD) {
                VectorDeal[] objects = {started(), new VectorDeal(), Check.made("cpus 8;vectors 32;off 0 1 2 3 4 5 6 7;device m managed 8;", "start m;")};
                for (VectorDeal x : objects) {
                    odd(x, a, b);
                    CHECK.due("law behind " + a + " " + b, x.law(), 0);
                    calls++;
                }
            }
        }
        CHECK.due("odd arguments were tried", calls, 3L * ODD.length * ODD.length);
    }

    private static void odd(VectorDeal x, int a, int b) {
        x.cpu(a, b);
        x.device(a, b);
        x.spread(a, b);
        x.clear(a, b);
        x.without(a, b);
        x.log(a, b);
        x.alike(a, b);
        for (int c : ODD) {
            x.vector(a, b, c);
            x.line(a, b, c);
            x.storm(a, b, c);
            x.move(a, b, c);
        }
        x.raise(a, b, true);
        x.raise(a, b, false);
        x.image(a);
        x.start(a);
        x.claim(b);
        x.tick(a);
        x.unplug(a);
        x.plug(b);
        x.stop(b);
        x.room(a);
        x.about(a);
        x.fault(a);
        x.back(b);
        x.feed(a, b, a, b, a);
        x.end(b);
        x.orders();
        x.feed(b, a, b, a, b);
        x.end(a);
        x.board();
    }
}
