import com.sun.management.ThreadMXBean;
import java.lang.management.ManagementFactory;
import java.util.NoSuchElementException;
import java.util.Random;

/**
 * The dearest runs within their room: what a run makes is some bytes an element, so that a bound of a
 * few megabytes is far below the 7.3 million fields and elements that it may have.
 */
public final class RoomTest {

    private static final long MOST_BYTES = 4_000_000;
    /** Below what one round's files would take if they were made anew: some two thousand objects. */
    private static final long MOST_BYTES_AGAIN = 50_000;

    private static final Check CHECK = new Check();

    public static void main(String[] args) {
        CHECK.part("room");
        stays("a new object", RoomTest::makeOne);
        stays("readers of 4096 segments", RoomTest::openManyReaders);
        stays("lists of many segments", RoomTest::writeManyLists);
        stays("merges of 4096 entries", RoomTest::mergeAgainAndAgain);
        CHECK.part("all memory is the ledger's own rows, used again");
        usesItsRowsAgain();
        CHECK.part("after the 512th call");
        outlivesItsCalls();
        CHECK.end();
    }

    private static void stays(String what, Runnable run) {
        run.run();
        long made = bytesMadeBy(run);
        CHECK.holds(made <= MOST_BYTES, what + " made " + made + " bytes");
        System.out.println(what + ": " + made + " bytes");
    }

    private static long bytesMadeBy(Runnable run) {
        ThreadMXBean threads = (ThreadMXBean) ManagementFactory.getThreadMXBean();
        long thread = Thread.currentThread().getId();
        long before = threads.getThreadAllocatedBytes(thread);
        run.run();
        return threads.getThreadAllocatedBytes(thread) - before;
    }

    private static void makeOne() {
        CHECK.holds(new CommitLedger().count(0) == 0, "no actions");
    }

    private static CommitLedger filled(int limit) {
        CommitLedger x = new CommitLedger();
        x.limits(limit, 2);
        x.open(0);
        for (int i = 0; i < 40; i++) {
            x.add(0, i, 100);
        }
        x.add(0, 40, 96);
        return x;
    }

    private static void openManyReaders() {
        CommitLedger x = filled(1);
        CHECK.answers(1, "commit()", x::commit);
        CHECK.answers(4097, "count(1)", () -> x.count(1));
        for (int r = 1; r <= 200; r++) {
            int due = r;
            CHECK.answers(due, "reader", () -> x.reader(due % 2));
            x.release(r);
        }
    }

    private static void writeManyLists() {
        CommitLedger x = filled(2);
        x.commit();
        for (int round = 0; round < 7; round++) {
            writeListsAndLoseThem(x);
        }
    }

    /** Some two thousand lists, which are lost with the writer. */
    private static void writeListsAndLoseThem(CommitLedger x) {
        for (int key = 0; key < 100; key += 2) {
            x.erase(key);
        }
        CHECK.answers(2, "prepare()", x::prepare);
        CHECK.answers(2048 + 2048 + 2, "count(1)", () -> x.count(1));
        x.rollback();
        CHECK.answers(2049, "count(1)", () -> x.count(1));
        CHECK.answers(2048, "open(0)", () -> x.open(0));
    }

    private static void usesItsRowsAgain() {
        CommitLedger x = filled(2);
        x.commit();
        writeListsAndLoseThem(x);
        long again = bytesMadeBy(() -> writeListsAndLoseThem(x));
        CHECK.holds(again <= MOST_BYTES_AGAIN, "a second round made " + again + " bytes");
        System.out.println("files used again: " + again + " bytes");
    }

    private static void mergeAgainAndAgain() {
        CommitLedger x = filled(16);
        for (int m = 1; m <= 90; m++) {
            int due = m;
            x.erase(m);
            CHECK.answers(due, "merge(1)", () -> x.merge(1));
            CHECK.answers(1, "finish", () -> x.finish(due, true));
            CHECK.answers(due, "commit()", x::commit);
        }
        CHECK.answers(2, "count(1)", () -> x.count(1));
    }

    /** What later calls answer is free, but none may throw by itself or fail to end. */
    private static void outlivesItsCalls() {
        CommitLedger x = new CommitLedger();
        Random random = new Random(7);
        for (int call = 0; call < 200_000; call++) {
            try {
                anyCall(x, random);
            } catch (RuntimeException e) {
                StackTraceElement[] trace = e.getStackTrace();
                boolean thrown = trace.length > 0 && trace[0].getClassName().equals("CommitLedger")
                        && isOneOfTheDocument(e);
                CHECK.holds(thrown, "threw by itself: " + e);
            }
        }
    }

    private static boolean isOneOfTheDocument(RuntimeException e) {
        Class<?> one = e.getClass();
        return one == IllegalArgumentException.class || one == IllegalStateException.class
                || one == NoSuchElementException.class || one == UnsupportedOperationException.class
                || one == IndexOutOfBoundsException.class || one == ArithmeticException.class;
    }

    private static int anyNumber(Random random) {
        int[] edges = {Integer.MIN_VALUE, -2, -1, 0, 1, 2, 100, 4096, Integer.MAX_VALUE};
        return random.nextInt(3) == 0 ? edges[random.nextInt(edges.length)] : random.nextInt(5);
    }

    private static int anyCall(CommitLedger x, Random random) {
        int a = anyNumber(random);
        int b = anyNumber(random);
        switch (random.nextInt(22)) {
            case 0: return x.open(a);
            case 1: x.limits(a, b); return 0;
            case 2: return x.add(a, b, anyNumber(random));
            case 3: return random.nextInt(8) == 0 ? x.erase(a) : 0;
            case 4: return x.flush();
            case 5: return x.merge(a);
            case 6: return x.finish(x.count(9) > 0 ? x.segment(0, 3) : a, b > 0);
            case 7: return x.prepare();
            case 8: return x.commit();
            case 9: x.rollback(); return 0;
            case 10: return x.close();
            case 11: x.power(a); return 0;
            case 12: if (random.nextInt(20) == 0) { x.crash(); } return 0;
            case 13: if (random.nextInt(20) == 0) { x.harm(a, b); } return 0;
            case 14: return x.reader(a);
            case 15: x.release(a); return 0;
            case 16: return x.value(a, b);
            case 17: return x.many(a, b);
            case 18: return x.serial(a, b);
            case 19: return x.seen(a, b);
            case 20: return x.segment(a, b);
            default: return x.count(a);
        }
    }
}
