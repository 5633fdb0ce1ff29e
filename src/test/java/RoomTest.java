import com.sun.management.ThreadMXBean;
import java.lang.management.ManagementFactory;

/** All calls of an object, 512 and some more, take little room, whichever they are: no call makes rows anew. */
public final class RoomTest {
    private static final int CALLS = 512;
    /** All calls of a run share room for 7.3 million fields and elements; this is far less than one byte for each. */
    private static final long MOST_BYTES = 500_000;

    /** The call with this number on an object. */
    private interface Asked {
        long of(EndVersions rows, int call);
    }

    private static final Checks checks = new Checks("RoomTest");

    private RoomTest() {
    }

    public static void main(String[] arguments) {
        measured("acts", RoomTest::act);
        measured("texts that are run", RoomTest::runText);
        measured("least rates", (rows, call) -> rows.leastRate(0));
        measured("settings", (rows, call) -> rows.set(0, 1 + call % 9));
        measured("undo after each act", RoomTest::actAndUndo);
        measured("digests", (rows, call) -> rows.digest());
        measured("looks", RoomTest::look);
        checks.end();
    }

    private static long act(EndVersions rows, int call) {
        int last = rows.count(0) - 1;
        return last == 99 ? rows.drop() : call % 5 == 4 ? rows.pop(last, true) : rows.push(last % 40, call, false);
    }

    private static long runText(EndVersions rows, int call) {
        return rows.count(0) == 100 ? rows.clear() : rows.run(0);
    }

    private static long actAndUndo(EndVersions rows, int call) {
        return call % 2 == 0 ? rows.push(0, call, true) : rows.undo();
    }

    private static long look(EndVersions rows, int call) {
        int version = call % rows.count(0);
        return rows.version(version, call % 10) + rows.count(call % 8) + rows.common(version, 0)
            + rows.firstLike(version) + rows.worst(version) + (long) rows.mean(version)
            + rows.stalls(version, 1 + call % 9) + rows.worstWith(version, 1 + call % 9);
    }

    /** An object with a text of 100 bytes, run once; all of its acts can be done. */
    private static EndVersions made() {
        EndVersions rows = Rows.withText("f1;".repeat(20) + "y;".repeat(20));
        rows.run(0);
        return rows;
    }

    private static void measured(String what, Asked asked) {
        // Classes are loaded and joined at the first time.
        bytesOf(asked);
        long bytes = bytesOf(asked);
        if (bytes > MOST_BYTES) {
            System.out.println("RoomTest: " + what + " took " + bytes + " bytes");
        }
        checks.equal(what + " take little room", bytes <= MOST_BYTES, true);
    }

    private static long bytesOf(Asked asked) {
        ThreadMXBean threads = (ThreadMXBean) ManagementFactory.getThreadMXBean();
        long thread = Thread.currentThread().getId();
        long before = threads.getThreadAllocatedBytes(thread);
        EndVersions rows = made();
        for (int call = 0; call < CALLS; call++) {
            asked.of(rows, call);
        }
        return threads.getThreadAllocatedBytes(thread) - before;
    }
}
