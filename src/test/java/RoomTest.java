import com.sun.management.ThreadMXBean;
import java.lang.management.ManagementFactory;
import java.util.function.ObjIntConsumer;

/**
 * All calls of one run live in one room, for 600,000 objects and 7,300,000 fields and elements. Each
 * of these has a byte at least, and each object 16, so a run that makes fewer bytes than the room has
 * elements makes few enough of both.
 */
public final class RoomTest {
    private static final int CALLS = 512;
    private static final long ROOM = 7_300_000;
    private static final String[] NETS = {"p", "p1;p", "p1;p2;p", "p1;p2;p3;p0", "p123;p023;p013;p012"};
    private static final ThreadMXBean THREADS = (ThreadMXBean) ManagementFactory.getThreadMXBean();

    public static void main(String[] args) {
        for (String net : NETS) {
            runs("new rows", net, (x, k) -> x.sheet(k % 4, k % 3, 60));
            runs("calls and back", net, (x, k) -> callOrBack(x, k));
            runs("nets told", net, (x, k) -> x.net(3, 2, 0, net.length()));
            runs("texts that fail", net, (x, k) -> x.net(3, 2, 0, net.length() - 1));
            runs("runs", net, (x, k) -> x.runs(k / 2 % 4, k % 2));
            runs("best", net, (x, k) -> x.best(k / 2 % 4, k % 2));
            runs("within", net, (x, k) -> x.within(k / 4 % 4, k % 4));
            runs("mend", net, (x, k) -> x.mend(k / 13 % 4, k % 13 - 1));
            runs("nets", net, (x, k) -> x.nets(1 + k / 16 % 3, k / 4 % 4, k % 4));
            runs("told, then mended", net, (x, k) -> toldOrMended(x, k, net.length()));
            runs("called, then known", net, (x, k) -> calledOrKnown(x, k));
            runs("telling", net, (x, k) -> tellingOf(x, k));
        }
        Check.finish();
    }

    private static void callOrBack(CallRounds x, int k) {
        if (k % 24 < 12) x.call(k % 2, 1 - k % 2);
        else x.back();
    }

    private static void toldOrMended(CallRounds x, int k, int length) {
        if (k % 5 == 0) x.net(3, 2, 0, length);
        else x.mend(k % 5 - 1, -1);
    }

    private static void calledOrKnown(CallRounds x, int k) {
        if (k % 6 == 0) callOrBack(x, k / 6 % 4 + k / 24 % 2 * 12);
        else if (k % 6 == 5) x.end(k / 6 % 4);
        else x.known(k % 6 - 1, k / 6 % 4);
    }

    private static void tellingOf(CallRounds x, int k) {
        if (k < 4) x.call(k % 2, 1 - k % 2);
        else if (k % 2 == 0) x.tell(k / 2 % 4);
        else x.log(k / 2 % 4);
    }

    /** The run is made twice, as the machine loads classes in the first one. */
    private static void runs(String what, String net, ObjIntConsumer<CallRounds> ask) {
        run(net, ask);
        long made = run(net, ask);
        Check.isTrue(what + " in " + net + ": " + made + " bytes", made > 0 && made < ROOM);
    }

    private static long run(String net, ObjIntConsumer<CallRounds> ask) {
        long before = THREADS.getCurrentThreadAllocatedBytes();
        CallRounds x = Check.withNet(net);
        for (int k = 0; k < CALLS; k++) ask.accept(x, k);
        return THREADS.getCurrentThreadAllocatedBytes() - before;
    }
}
