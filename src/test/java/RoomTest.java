import com.sun.management.ThreadMXBean;
import java.lang.management.ManagementFactory;

/** What an object makes stays small, since all calls of a run share one room. */
public final class RoomTest {
    private static final long MOST_BYTES_NEW = 24_000;
    private static final long MOST_BYTES_SET = 400;

    public static void main(String[] args) {
        Check check = new Check();
        check.sentence("What an object makes stays small");
        ThreadMXBean threads = (ThreadMXBean) ManagementFactory.getThreadMXBean();
        HashTree x = everyCall(new HashTree());

        long before = threads.getCurrentThreadAllocatedBytes();
        x = new HashTree();
        dueAtMost(check, "a new object", threads.getCurrentThreadAllocatedBytes() - before, MOST_BYTES_NEW);

        before = threads.getCurrentThreadAllocatedBytes();
        for (int n = 0; n < 250; n++) {
            x.key(n % 2, 0, 0, n);
            x.set(n, n, n, n);
        }
        dueAtMost(check, "250 keys", threads.getCurrentThreadAllocatedBytes() - before, 250 * MOST_BYTES_SET);

        before = threads.getCurrentThreadAllocatedBytes();
        for (int n = 0; n < 250; n++) {
            x.key(n % 2, 0, 0, n);
            x.set(n, n, n, ~n);
            x.root(0);
            x.prove();
            x.sibling(n, 0);
            x.digest(n, 8, 500, 0);
            x.remove();
        }
        // The bean's own calls may make a little.
        dueAtMost(check, "all other calls", threads.getCurrentThreadAllocatedBytes() - before, 2_000);
        check.end();
    }

    private static HashTree everyCall(HashTree x) {
        for (int n = 0; n < 3; n++) {
            x.key(n, 0, 0, n);
            x.set(n, n, n, n);
            x.root(0);
            x.prove();
            x.sibling(0, 0);
            x.digest(n, 8, 500, 0);
        }
        x.remove();
        return x;
    }

    private static void dueAtMost(Check check, String what, long bytes, long most) {
        check.due(what + " takes " + bytes + " bytes, at most " + most, bytes <= most, true);
    }
}
