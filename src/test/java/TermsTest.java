import java.io.IOException;

/** The sentences of the document's terms that name a boundary case, each with runs of its own. */
public final class TermsTest {

    private static Sentences the;

    public static void main(String[] args) throws IOException {
        the = new Sentences();
        calls();
        entries();
        writer();
        flushing();
        deleting();
        level();
        policy();
        merging();
        directory();
        powerLost();
        nothingToCommit();
        preparing();
        lists();
        generation();
        neededFiles();
        syncedFilesStay();
        harm();
        lifetimeOfEntries();
        lifetimeOfReadersAndMerges();
        orderOfRefusals();
        refusedCallsChangeNothing();
        the.end();
    }

    private static void calls() {
        the.sentence("An object is used for at most 512 calls after it has been made");
        StringBuilder rows = new StringBuilder("open(0) = 0\n");
        for (int i = 1; i <= 255; i++) {
            rows.append("add(0, 0, 16) = ").append(16 * i).append('\n');
            rows.append("commit() = ").append(i).append('\n');
        }
        the.run(rows + "add(0, 0, 16) = 4096\n");
    }

    private static void entries() {
        the.sentence("gets a SERIAL, one more than the one before");
        the.run("""
                open(0) = 0
                add(5, 0, 1) = 1
                add(5, 0, 3) = 4
                erase(7) = 1
                add(5, 0, 1) = 5
                flush() = 1
                add(5, 0, 100) = 105
                commit() = 1
                add(5, 0, 1) = 106
                count(10) = 106
                rollback()
                open(0) = 8
                count(10) = 105
                add(5, 0, 1) = 106
                crash()
                open(0) = 8
                add(5, 0, 2) = 107
                reader(1) = 1
                serial(1, 0) = 1
                serial(1, 2) = 3
                serial(1, 3) = 5
                serial(1, 105) = 107
                rollback()
                open(1) = 0
                add(5, 0, 1) = 1
                """);
        the.sentence("it's LIVE until it's DELETED");
        the.run("""
                open(0) = 0
                add(1, 0, 2) = 2
                count(7) = 2
                count(8) = 0
                erase(1) = 1
                count(7) = 1
                count(8) = 1
                erase(1) = 0
                add(1, 0, 1) = 3
                count(7) = 2
                erase(1) = 1
                count(8) = 2
                """);
    }

    private static void writer() {
        the.sentence("THE WRITER is open or not; not at first.");
        the.run("""
                count(4) = 0
                add(1, 1, 1) = state
                erase(1) = state
                flush() = state
                merge(0) = state
                merge(1) = state
                finish(1, true) = state
                finish(1, false) = state
                prepare() = state
                commit() = state
                rollback() = state
                close() = state
                reader(1) = state
                segment(0, 0) = state
                count(4) = 0
                count(0) = 0
                open(0) = 0
                count(4) = 1
                close() = 1
                count(4) = 0
                flush() = state
                """);
        the.sentence("if the BUFFER has as many as its limit (16 at first) or more, it's FLUSHED.");
        the.run("""
                open(0) = 0
                add(1, 0, 15) = 15
                count(5) = 15
                count(6) = 0
                count(0) = 0
                add(1, 0, 1) = 16
                count(5) = 0
                count(6) = 1
                count(0) = 1
                add(1, 0, 17) = 33
                count(5) = 1
                count(6) = 2
                """);
        the.run("""
                # More than its limit: the limit was lowered.
                limits(100, 4)
                open(0) = 0
                add(1, 0, 50) = 50
                limits(10, 4)
                count(5) = 50
                add(1, 0, 1) = 51
                count(5) = 0
                count(6) = 1
                segment(0, 0) = 51
                # As many as its limit: not yet one more.
                limits(100, 4)
                add(1, 0, 10) = 61
                limits(10, 4)
                count(5) = 10
                limits(11, 4)
                add(1, 0, 1) = 62
                count(5) = 0
                segment(1, 0) = 11
                """);
        the.run("""
                # What isn't live counts for the limit, too.
                limits(3, 4)
                open(0) = 0
                add(1, 0, 2) = 2
                erase(1) = 1
                erase(2) = 1
                count(5) = 2
                add(9, 0, 1) = 3
                count(5) = 0
                segment(0, 0) = 3
                segment(0, 1) = 2
                segment(0, 4) = 1
                """);
        the.sentence("After each ENTRY that's added");
        the.run("""
                limits(10, 4)
                open(0) = 0
                add(1, 0, 25) = 25
                count(6) = 2
                count(5) = 5
                segment(0, 0) = 10
                segment(1, 0) = 10
                segment(1, 4) = 11
                """);
    }

    private static void flushing() {
        the.sentence("if one ENTRY of the BUFFER is LIVE, all of it (also what isn't LIVE) becomes a"
                + " new SEGMENT behind the others, whose FILE is WRITTEN.");
        the.run("""
                open(0) = 0
                add(1, 0, 3) = 3
                erase(1) = 1
                erase(3) = 1
                flush() = 1
                segment(0, 0) = 3
                segment(0, 1) = 2
                segment(0, 4) = 1
                count(0) = 1
                count(1) = 1
                add(7, 0, 1) = 4
                flush() = 2
                segment(0, 4) = 1
                segment(1, 4) = 4
                """);
        the.run("""
                # None is live: no segment, no file, no action.
                open(0) = 0
                add(1, 0, 2) = 2
                erase(1) = 1
                erase(2) = 1
                power(0)
                flush() = 0
                count(4) = 1
                count(6) = 0
                count(0) = 0
                count(1) = 0
                """);
        the.sentence("The BUFFER is empty then.");
        the.run("""
                open(0) = 0
                flush() = 0
                count(0) = 0
                add(1, 0, 2) = 2
                flush() = 1
                count(5) = 0
                flush() = 1
                count(0) = 1
                # Also if none of its entries was live: they are lost then.
                add(8, 0, 2) = 4
                erase(8) = 1
                erase(9) = 1
                count(5) = 2
                count(8) = 2
                flush() = 1
                count(5) = 0
                count(8) = 0
                count(10) = 4
                add(8, 0, 1) = 5
                flush() = 2
                segment(1, 0) = 1
                segment(1, 4) = 5
                """);
        the.run("""
                # Whoever flushes.
                open(0) = 0
                add(1, 0, 1) = 1
                reader(1) = 1
                count(5) = 0
                add(1, 0, 1) = 2
                prepare() = 1
                count(5) = 0
                commit() = 1
                add(1, 0, 1) = 3
                commit() = 2
                count(5) = 0
                count(6) = 3
                """);
    }

    private static void deleting() {
        the.sentence("it still counts in its SEGMENT until it's merged.");
        the.run("""
                limits(4, 2)
                open(0) = 0
                add(1, 0, 4) = 4
                erase(2) = 1
                segment(0, 0) = 4
                segment(0, 1) = 1
                merge(1) = 1
                segment(0, 0) = 4
                segment(0, 1) = 1
                finish(1, true) = 1
                segment(0, 0) = 3
                segment(0, 1) = 0
                count(8) = 0
                """);
        the.sentence("A SEGMENT without LIVE ENTRIES that's in no running MERGE is gone at once.");
        the.run("""
                limits(2, 2)
                open(0) = 0
                add(1, 0, 4) = 4
                erase(1) = 1
                count(6) = 2
                segment(0, 1) = 1
                erase(2) = 1
                count(6) = 1
                count(1) = 1
                count(8) = 0
                segment(0, 4) = 3
                erase(4) = 1
                erase(3) = 1
                count(6) = 0
                count(1) = 0
                count(10) = 4
                """);
        the.run("""
                # Several by one call, and between others.
                limits(1, 2)
                open(0) = 0
                add(5, 0, 1) = 1
                add(6, 0, 1) = 2
                add(5, 0, 1) = 3
                add(5, 0, 1) = 4
                add(7, 0, 1) = 5
                erase(5) = 3
                count(6) = 2
                segment(0, 4) = 2
                segment(1, 4) = 5
                """);
        the.run("""
                # In a running merge it stays; beside one it goes.
                limits(1, 2)
                open(0) = 0
                add(1, 0, 3) = 3
                merge(0) = 1
                erase(1) = 1
                erase(3) = 1
                count(6) = 2
                segment(0, 1) = 1
                segment(0, 3) = 1
                count(8) = 1
                count(1) = 3
                finish(1, true) = 1
                segment(0, 0) = 2
                segment(0, 1) = 1
                count(1) = 1
                """);
    }

    private static void level() {
        the.sentence("the greatest e with FACTOR to the e not above the number of its LIVE ENTRIES"
                + " (0 if there is none); FACTOR is 4 at first.");
        String sizes = """
                open(0) = 0
                add(0, 0, 1) = 1
                flush() = 1
                add(0, 0, 3) = 4
                flush() = 2
                add(0, 0, 4) = 8
                flush() = 3
                add(0, 0, 15) = 23
                flush() = 4
                """;
        the.run(sizes + """
                segment(0, 2) = 0
                segment(1, 2) = 0
                segment(2, 2) = 1
                segment(3, 2) = 1
                add(0, 0, 16) = 39
                segment(4, 2) = 2
                limits(100, 4)
                add(0, 0, 63) = 102
                flush() = 6
                segment(5, 2) = 2
                add(0, 0, 64) = 166
                flush() = 7
                segment(6, 2) = 3
                limits(100, 2)
                segment(0, 2) = 0
                segment(1, 2) = 1
                segment(2, 2) = 2
                segment(3, 2) = 3
                segment(4, 2) = 4
                segment(5, 2) = 5
                segment(6, 2) = 6
                limits(100, 3)
                segment(1, 2) = 1
                segment(2, 2) = 1
                segment(6, 2) = 3
                limits(100, 63)
                segment(4, 2) = 0
                segment(5, 2) = 1
                segment(6, 2) = 1
                limits(100, 64)
                segment(5, 2) = 0
                segment(6, 2) = 1
                """);
        the.run(sizes + """
                # Those that are live count.
                erase(3) = 2
                segment(2, 0) = 4
                segment(2, 2) = 0
                """);
        the.run("""
                # 4096 is 2 to the 12th, 4 to the 6th, 64 to the 2nd; 4095 is below.
                limits(10000, 2)
                open(0) = 0
                40 * add(0, 0, 100)
                add(200, 0, 95) = 4095
                flush() = 1
                segment(0, 2) = 11
                limits(10000, 64)
                segment(0, 2) = 1
                limits(10000, 4)
                segment(0, 2) = 5
                add(300, 0, 1) = 4096
                flush() = 2
                merge(1) = 1
                finish(1, true) = 1
                segment(0, 2) = 6
                limits(10000, 64)
                segment(0, 2) = 2
                limits(10000, 2)
                segment(0, 2) = 12
                erase(300) = 1
                segment(0, 2) = 11
                """);
        the.run("""
                # None is live.
                limits(1, 2)
                open(0) = 0
                add(1, 0, 2) = 2
                merge(0) = 1
                erase(1) = 1
                segment(0, 0) = 1
                segment(0, 1) = 1
                segment(0, 2) = 0
                """);
    }

    private static void policy() {
        the.sentence("for LEVELS 0, 1, 2 .. the first FACTOR SEGMENTS that follow each other, in no"
                + " running MERGE, none of a higher LEVEL.");
        the.run("""
                # As many as FACTOR, which is 4 at first; not one less.
                open(0) = 0
                merge(0) = missing
                add(1, 0, 48) = 48
                count(6) = 3
                merge(0) = missing
                add(1, 0, 16) = 64
                merge(0) = 1
                segment(0, 3) = 1
                segment(3, 3) = 1
                """);
        the.run("""
                limits(1, 64)
                open(0) = 0
                add(0, 0, 63) = 63
                merge(0) = missing
                add(0, 0, 1) = 64
                merge(0) = 1
                segment(0, 3) = 1
                segment(63, 3) = 1
                finish(1, true) = 1
                segment(0, 2) = 1
                """);
        the.run("""
                # The first of them, and no more than FACTOR.
                limits(1, 2)
                open(0) = 0
                add(1, 0, 5) = 5
                merge(0) = 1
                segment(0, 3) = 1
                segment(1, 3) = 1
                segment(2, 3) = 0
                merge(0) = 2
                segment(2, 3) = 2
                segment(3, 3) = 2
                segment(4, 3) = 0
                merge(0) = missing
                """);
        the.run("""
                # A lower level comes first, wherever it stands: 2, 2, 1, 1 entries.
                limits(2, 2)
                open(0) = 0
                add(1, 0, 4) = 4
                limits(1, 2)
                add(1, 0, 2) = 6
                merge(0) = 1
                segment(0, 3) = 0
                segment(1, 3) = 0
                segment(2, 3) = 1
                segment(3, 3) = 1
                merge(0) = 2
                segment(0, 3) = 2
                segment(1, 3) = 2
                """);
        the.run("""
                # Lower levels are taken along with a level: 1, 2, 1 entries.
                limits(100, 2)
                open(0) = 0
                add(1, 0, 1) = 1
                flush() = 1
                add(1, 0, 2) = 3
                flush() = 2
                add(1, 0, 1) = 4
                flush() = 3
                merge(0) = 1
                segment(0, 3) = 1
                segment(1, 3) = 1
                segment(2, 3) = 0
                """);
        the.run("""
                # A running merge stands between the others: 4, 1, 1, 4 entries.
                limits(100, 2)
                open(0) = 0
                add(1, 0, 4) = 4
                flush() = 1
                add(1, 0, 1) = 5
                flush() = 2
                add(1, 0, 1) = 6
                flush() = 3
                add(1, 0, 4) = 10
                flush() = 4
                merge(0) = 1
                segment(1, 3) = 1
                segment(2, 3) = 1
                merge(0) = missing
                finish(1, true) = 3
                merge(0) = 2
                segment(0, 3) = 2
                segment(1, 3) = 2
                segment(2, 3) = 0
                """);
        the.run("""
                # The highest level of all: 2048 and 2048 entries have level 11.
                limits(2048, 2)
                open(0) = 0
                40 * add(0, 0, 100)
                add(0, 0, 96) = 4096
                count(6) = 2
                segment(1, 2) = 11
                merge(0) = 1
                finish(1, true) = 1
                segment(0, 2) = 12
                merge(0) = missing
                """);
    }

    private static void merging() {
        the.sentence("the ENTRIES that are LIVE now, in order, will be the new SEGMENT, whose FILE is"
                + " WRITTEN.");
        the.run("""
                limits(2, 2)
                open(0) = 0
                add(1, 0, 4) = 4
                erase(1) = 1
                erase(3) = 1
                merge(0) = 1
                count(0) = 3
                count(1) = 3
                finish(1, true) = 1
                count(0) = 3
                count(1) = 1
                segment(0, 0) = 2
                segment(0, 1) = 0
                segment(0, 4) = 2
                reader(1) = 1
                serial(1, 0) = 2
                serial(1, 1) = 4
                """);
        the.sentence("the new SEGMENT takes the place of the old ones; of its ENTRIES those that were"
                + " DELETED since it began aren't LIVE in it.");
        the.run("""
                limits(1, 2)
                open(0) = 0
                limits(2, 2)
                add(1, 0, 2) = 2
                limits(1, 2)
                add(3, 0, 2) = 4
                limits(2, 2)
                add(5, 0, 2) = 6
                merge(0) = 1
                segment(1, 3) = 1
                segment(2, 3) = 1
                add(7, 0, 2) = 8
                erase(3) = 1
                finish(1, true) = 4
                segment(0, 4) = 1
                segment(1, 4) = 3
                segment(1, 0) = 2
                segment(1, 1) = 1
                segment(2, 4) = 5
                segment(3, 4) = 7
                finish(1, true) = missing
                """);
        the.sentence("It may be given up instead.");
        the.run("""
                limits(1, 2)
                open(0) = 0
                add(1, 0, 2) = 2
                merge(0) = 1
                count(1) = 3
                finish(1, false) = 2
                count(1) = 2
                segment(0, 0) = 1
                segment(0, 3) = 0
                segment(1, 3) = 0
                finish(1, false) = missing
                merge(0) = 2
                """);
        the.sentence("(What is without LIVE ENTRIES then is gone at once either way.)");
        the.run("""
                limits(1, 2)
                open(0) = 0
                add(1, 0, 2) = 2
                merge(0) = 1
                erase(1) = 1
                erase(2) = 1
                count(6) = 2
                count(1) = 3
                finish(1, true) = 0
                count(1) = 0
                """);
        the.run("""
                limits(1, 2)
                open(0) = 0
                add(1, 0, 2) = 2
                merge(0) = 1
                erase(1) = 1
                erase(2) = 1
                finish(1, false) = 0
                count(1) = 0
                add(3, 0, 2) = 4
                merge(0) = 2
                erase(3) = 1
                finish(2, false) = 1
                segment(0, 4) = 4
                count(1) = 1
                """);
        the.run("""
                # Another merge that runs keeps its own.
                limits(1, 2)
                open(0) = 0
                add(1, 0, 4) = 4
                merge(0) = 1
                merge(0) = 2
                erase(1) = 1
                erase(3) = 1
                finish(1, false) = 3
                segment(0, 4) = 2
                segment(1, 1) = 1
                segment(1, 3) = 2
                finish(2, false) = 2
                """);
    }

    private static void directory() {
        the.sentence("THE DIRECTORY has FILES, numbered from 0 as they are WRITTEN.");
        the.run("""
                # 0, 1, 2 are segments, 3 is a merge's, 4 the commit's.
                limits(1, 2)
                open(0) = 0
                add(1, 0, 3) = 3
                merge(0) = 1
                close() = 1
                count(1) = 3
                harm(0, 0) = missing
                harm(1, 0) = missing
                harm(2, 0)
                harm(3, 0)
                harm(4, 0)
                harm(5, 0) = missing
                """);
        the.run("""
                # The number of a file that is gone is not used again.
                open(0) = 0
                add(1, 0, 1) = 1
                flush() = 1
                rollback()
                count(1) = 0
                open(0) = 0
                add(1, 0, 1) = 1
                close() = 1
                harm(0, 0) = missing
                harm(1, 0)
                harm(2, 0)
                harm(3, 0) = missing
                """);
        the.run("""
                # A file that was not written has none.
                open(0) = 0
                add(1, 0, 1) = 1
                commit() = 1
                add(2, 0, 1) = 2
                power(0)
                flush() = power
                open(0) = 1
                add(2, 0, 1) = 2
                close() = 2
                harm(0, 0)
                harm(1, 0) = missing
                harm(2, 0)
                harm(3, 0)
                harm(4, 0) = missing
                """);
        the.sentence("ACTIONS: to WRITE a FILE, to SYNC one, to RENAME.");
        the.run("""
                open(0) = 0
                add(1, 0, 2) = 2
                count(0) = 0
                flush() = 1
                count(0) = 1
                erase(1) = 1
                count(0) = 1
                # The list, two syncs, the commit's file and its sync.
                prepare() = 1
                count(0) = 6
                commit() = 1
                count(0) = 7
                merge(1) = 1
                count(0) = 8
                finish(1, true) = 1
                reader(0) = 1
                reader(1) = 2
                release(1)
                rollback()
                open(0) = 1
                close() = 1
                count(0) = 8
                """);
    }

    private static void powerLost() {
        the.sentence("FILES that weren't SYNCED are gone, and the WRITER and all READERS, too.");
        the.run("""
                limits(2, 2)
                open(0) = 0
                add(1, 0, 4) = 4
                commit() = 1
                reader(0) = 1
                reader(1) = 2
                add(5, 0, 3) = 7
                merge(0) = 1
                count(1) = 5
                crash()
                count(1) = 3
                count(2) = 0
                count(3) = 1
                count(4) = 0
                count(5) = 0
                count(6) = 0
                count(7) = 0
                count(8) = 0
                count(9) = 0
                count(10) = 0
                count(11) = 0
                seen(1, 0) = missing
                release(2) = missing
                flush() = state
                open(0) = 2
                finish(1, true) = missing
                count(5) = 0
                count(7) = 4
                """);
        the.run("""
                # By an action in place of crash; what is prepared is lost, its files were synced.
                limits(2, 2)
                open(0) = 0
                add(1, 0, 2) = 2
                reader(1) = 1
                prepare() = 1
                power(0)
                commit() = power
                count(1) = 2
                count(2) = 0
                count(3) = 0
                count(4) = 0
                count(11) = 0
                reader(0) = missing
                value(1, 1) = missing
                open(0) = 0
                count(1) = 0
                count(11) = 0
                """);
    }

    private static void nothingToCommit() {
        the.sentence("There is nothing to commit if there's a COMMIT with the same SEGMENTS in the same"
                + " order, the same ENTRIES LIVE in them, and the same latest SERIAL.");
        the.run("""
                # No commit: something, even without segments and serial.
                open(0) = 0
                prepare() = 1
                commit() = 1
                prepare() = 0
                commit() = 1
                close() = 1
                open(1) = 0
                prepare() = 0
                """);
        the.run("""
                # The latest serial alone.
                open(0) = 0
                commit() = 1
                add(1, 0, 1) = 1
                erase(1) = 1
                prepare() = 2
                commit() = 2
                prepare() = 0
                rollback()
                open(1) = 0
                prepare() = 3
                rollback()
                # As many serials without segments: the same again.
                open(1) = 0
                add(7, 0, 1) = 1
                erase(7) = 1
                prepare() = 0
                count(11) = 0
                """);
        the.run("""
                # What is live alone.
                open(0) = 0
                add(1, 0, 2) = 2
                commit() = 1
                prepare() = 0
                erase(3) = 0
                prepare() = 0
                erase(2) = 1
                prepare() = 2
                """);
        the.run("""
                # The segments alone: merged, then the same entries live in another segment.
                limits(1, 2)
                open(0) = 0
                add(1, 0, 2) = 2
                commit() = 1
                merge(1) = 1
                prepare() = 0
                finish(1, true) = 1
                prepare() = 2
                commit() = 2
                prepare() = 0
                """);
        the.run("""
                # As many segments, the same entries live, the same serial: but another segment.
                limits(2, 2)
                open(0) = 0
                add(1, 0, 2) = 2
                erase(1) = 1
                commit() = 1
                merge(1) = 1
                finish(1, true) = 1
                prepare() = 2
                """);
        the.run("""
                # A segment of the commit without live entries is gone by open: not the same.
                limits(1, 2)
                open(0) = 0
                add(1, 0, 2) = 2
                merge(0) = 1
                erase(1) = 1
                commit() = 1
                prepare() = 0
                rollback()
                open(0) = 1
                prepare() = 2
                """);
    }

    private static void preparing() {
        the.sentence("PREPARING: FLUSH. If there's nothing to commit, that's all.");
        the.run("""
                open(0) = 0
                add(1, 0, 1) = 1
                erase(1) = 1
                commit() = 1
                rollback()
                open(1) = 0
                add(1, 0, 1) = 1
                erase(1) = 1
                count(5) = 1
                count(0) = 3
                prepare() = 0
                count(5) = 0
                count(0) = 3
                count(11) = 0
                """);
        the.sentence("For each SEGMENT in order: SYNC its FILE, if that wasn't done; SYNC its LIST, if"
                + " there is one and that wasn't done. WRITE the commit's FILE, SYNC it.");
        the.run("""
                limits(2, 2)
                open(0) = 0
                add(1, 0, 4) = 4
                count(0) = 2
                commit() = 1
                # 2 syncs, the commit's file, its sync, the rename.
                count(0) = 7
                erase(1) = 1
                commit() = 2
                # A list and its sync, the commit's file, its sync, the rename.
                count(0) = 12
                add(5, 0, 2) = 6
                commit() = 3
                # A segment and its sync, the commit's file, its sync, the rename.
                count(0) = 17
                """);
        the.run("""
                # What is gone is not synced: one segment of two, the commit's file.
                limits(2, 2)
                open(0) = 0
                add(1, 0, 4) = 4
                erase(3) = 1
                erase(4) = 1
                count(0) = 2
                prepare() = 1
                count(0) = 5
                """);
        for (int n = 0; n <= 8; n++) {
            // Files: 0 and 1 segments, 2 and 3 their lists, 4 the commit's. The actions in order:
            // write 2, write 3, sync 0, sync 2, sync 1, sync 3, write 4, sync 4.
            int[] syncedAfter = {3, 5, 4, 6, 8};
            StringBuilder rows = new StringBuilder();
            rows.append("limits(2, 2)\nopen(0) = 0\nadd(1, 0, 4) = 4\nerase(1) = 1\nerase(3) = 1\n");
            rows.append("power(").append(n).append(")\n");
            rows.append(n < 8 ? "prepare() = power\n" : "prepare() = 1\ncommit() = power\n");
            rows.append("count(0) = ").append(2 + n).append('\n');
            for (int f = 0; f < syncedAfter.length; f++) {
                String there = n >= syncedAfter[f] ? "done" : "missing";
                rows.append("harm(").append(f).append(", 0) = ").append(there).append('\n');
            }
            the.run(rows.toString());
        }
        the.sentence("So it's PREPARED: the SEGMENTS, what's LIVE, the latest SERIAL, as they are now.");
        the.run("""
                limits(2, 2)
                open(0) = 0
                add(1, 10, 4) = 4
                prepare() = 1
                erase(1) = 1
                add(7, 70, 3) = 7
                merge(1) = 1
                finish(1, true) = 1
                commit() = 1
                count(5) = 1
                count(10) = 7
                reader(0) = 1
                seen(1, 0) = 4
                seen(1, 1) = 4
                seen(1, 2) = 2
                value(1, 1) = 10
                many(1, 7) = 0
                rollback()
                open(0) = 2
                count(10) = 4
                count(7) = 4
                """);
    }

    private static void lists() {
        the.sentence("if its LIVE ENTRIES aren't those of its LIST (a FILE that tells them; without one,"
                + " all are): a new LIST is WRITTEN.");
        the.run("""
                # All are live: no list. Segment and commit's file.
                open(0) = 0
                add(1, 0, 4) = 4
                commit() = 1
                count(1) = 2
                # Not all, without a list.
                erase(1) = 1
                commit() = 2
                count(1) = 3
                # Those of its list: no new one, only another segment and the commit's file.
                add(9, 0, 1) = 5
                count(0) = 10
                commit() = 3
                count(0) = 15
                count(1) = 4
                # Fewer than those of its list.
                erase(2) = 1
                prepare() = 4
                # The old list is the commit's, the new one the writer's.
                count(1) = 6
                commit() = 4
                count(1) = 4
                """);
        the.run("""
                # A writer that is opened has the commit's lists.
                open(0) = 0
                add(1, 0, 4) = 4
                erase(1) = 1
                close() = 1
                count(1) = 3
                open(0) = 1
                add(9, 0, 1) = 5
                prepare() = 2
                # Another segment and another commit's file.
                count(1) = 5
                """);
        the.run("""
                # Deleted in the buffer: the new segment has a list at once.
                open(0) = 0
                add(1, 0, 2) = 2
                erase(2) = 1
                commit() = 1
                count(1) = 3
                count(0) = 7
                """);
        the.run("""
                # Deleted since a merge began: the new segment has one, too; else none.
                limits(1, 2)
                open(0) = 0
                add(1, 0, 3) = 3
                merge(0) = 1
                erase(1) = 1
                finish(1, true) = 2
                commit() = 1
                count(1) = 4
                merge(1) = 2
                finish(2, true) = 1
                commit() = 2
                count(1) = 2
                """);
    }

    private static void generation() {
        the.sentence("Then the RENAME makes it THE COMMIT, its GENERATION one more than before (the first"
                + " one's is 1).");
        the.run("""
                count(3) = 0
                open(0) = 0
                prepare() = 1
                count(3) = 0
                reader(0) = missing
                power(0)
                commit() = power
                count(3) = 0
                open(0) = 0
                commit() = 1
                count(3) = 1
                add(1, 0, 1) = 1
                prepare() = 2
                rollback()
                count(3) = 1
                open(0) = 0
                add(1, 0, 1) = 1
                # A generation that was prepared and lost is used again.
                prepare() = 2
                commit() = 2
                crash()
                count(3) = 2
                open(1) = 0
                commit() = 3
                """);
    }

    private static void neededFiles() {
        the.sentence("THE COMMIT and what is PREPARED (the commit's FILE, its SEGMENTS' FILES, the LISTS"
                + " that they had then)");
        the.run("""
                # The commit alone: segment, list, its file.
                open(0) = 0
                add(1, 0, 2) = 2
                erase(1) = 1
                close() = 1
                count(1) = 3
                open(1) = 0
                count(1) = 3
                commit() = 2
                count(1) = 1
                """);
        the.run("""
                # What is prepared alone.
                limits(2, 2)
                open(0) = 0
                add(1, 0, 2) = 2
                erase(1) = 1
                prepare() = 1
                erase(2) = 1
                count(6) = 0
                count(1) = 3
                commit() = 1
                count(1) = 3
                commit() = 2
                count(1) = 1
                """);
        the.run("""
                limits(2, 2)
                open(0) = 0
                add(1, 0, 2) = 2
                erase(1) = 1
                prepare() = 1
                rollback()
                count(1) = 0
                """);
        the.sentence("the WRITER (its SEGMENTS' FILES and latest LISTS)");
        the.run("""
                limits(2, 2)
                open(0) = 0
                add(1, 0, 2) = 2
                count(1) = 1
                commit() = 1
                add(3, 0, 2) = 4
                erase(1) = 1
                prepare() = 2
                # Segment and file of the commit; segment, list and file of what is prepared.
                count(1) = 5
                erase(2) = 1
                count(6) = 1
                count(1) = 5
                commit() = 2
                count(1) = 4
                commit() = 3
                # What the writer has is what the commit has.
                count(1) = 2
                """);
        the.sentence("a running MERGE (its new FILE)");
        the.run("""
                limits(1, 2)
                open(0) = 0
                add(1, 0, 2) = 2
                commit() = 1
                merge(0) = 1
                count(1) = 4
                commit() = 1
                count(1) = 4
                finish(1, false) = 2
                count(1) = 3
                merge(0) = 2
                rollback()
                count(1) = 3
                """);
        the.sentence("a READER (its SEGMENTS' FILES).");
        the.run("""
                # Neither its list nor the commit's file.
                open(0) = 0
                add(1, 0, 2) = 2
                erase(1) = 1
                commit() = 1
                reader(0) = 1
                reader(0) = 2
                rollback()
                count(1) = 3
                open(1) = 0
                commit() = 2
                count(1) = 2
                release(1)
                count(1) = 2
                seen(2, 0) = 1
                release(2)
                count(1) = 1
                """);
        the.run("""
                # A reader of the writer: what was never committed.
                open(0) = 0
                add(1, 0, 2) = 2
                reader(1) = 1
                erase(1) = 1
                erase(2) = 1
                count(6) = 0
                count(1) = 1
                rollback()
                count(1) = 1
                release(1)
                count(1) = 0
                """);
    }

    private static void syncedFilesStay() {
        the.sentence("But after POWER was lost, FILES that were SYNCED stay until a WRITER is opened.");
        String lost = """
                open(0) = 0
                add(1, 0, 2) = 2
                commit() = 1
                add(3, 0, 1) = 3
                erase(1) = 1
                prepare() = 2
                # Segment and file of the commit; list, segment and file of what is prepared.
                count(1) = 5
                add(9, 0, 1) = 4
                flush() = 3
                count(1) = 6
                crash()
                count(1) = 5
                """;
        the.run(lost + """
                reader(0) = 1
                release(1)
                count(1) = 5
                crash()
                count(1) = 5
                open(2) = bad
                count(1) = 5
                open(0) = 1
                count(1) = 2
                """);
        the.run(lost + """
                # A refused open opens none.
                harm(0, 0)
                open(0) = corrupt
                count(1) = 5
                open(1) = 0
                count(1) = 2
                """);
        the.run(lost + """
                # From then on they go at once again.
                open(0) = 1
                count(1) = 2
                add(3, 0, 1) = 3
                prepare() = 2
                count(1) = 4
                rollback()
                count(1) = 2
                """);
    }

    private static void harm() {
        the.sentence("A COMMIT one of whose FILES was HARMED is CORRUPT.");
        for (int f = 0; f <= 3; f++) {
            // Files: 0 and 1 segments, 2 the list of segment 0, 3 the commit's.
            the.run("""
                    limits(2, 2)
                    open(0) = 0
                    add(1, 0, 4) = 4
                    erase(1) = 1
                    close() = 1
                    open(0) = 2
                    close() = 1
                    """ + "harm(" + f + ", 1)\n" + """
                    open(0) = corrupt
                    reader(0) = corrupt
                    count(3) = 1
                    open(1) = 0
                    reader(0) = corrupt
                    add(1, 0, 1) = 1
                    commit() = 2
                    reader(0) = 1
                    """);
        }
        the.run("""
                # Files that are not the commit's: an older commit's list and what was prepared.
                open(0) = 0
                add(1, 0, 2) = 2
                commit() = 1
                erase(1) = 1
                prepare() = 2
                crash()
                harm(2, 0)
                harm(3, 0)
                reader(0) = 1
                seen(1, 0) = 2
                open(0) = 1
                """);
    }

    private static void lifetimeOfEntries() {
        the.sentence("at most 4096 ENTRIES are ever added, by whatever WRITER");
        the.run("""
                open(0) = 0
                40 * add(0, 0, 100)
                add(0, 0, 95) = 4095
                add(0, 0, 2) = full
                count(10) = 4095
                add(0, 0, 1) = 4096
                add(0, 0, 1) = full
                add(0, 0, 100) = full
                count(10) = 4096
                count(7) = 4096
                """);
        the.run("""
                # Lost with the writer, deleted, merged away: they were added.
                open(0) = 0
                10 * add(0, 0, 100)
                rollback()
                open(1) = 0
                10 * add(0, 0, 100)
                crash()
                open(0) = 0
                20 * add(0, 0, 100)
                erase(5) = 20
                flush() = 125
                merge(1) = 1
                finish(1, true) = 1
                segment(0, 0) = 1980
                add(0, 0, 97) = full
                add(0, 0, 96) = 2096
                add(0, 0, 1) = full
                close() = 1
                open(1) = 0
                add(0, 0, 1) = full
                open(0) = state
                commit() = 2
                count(10) = 0
                """);
        the.run("""
                # As many segments as there can be, in writer, commit and reader.
                limits(1, 64)
                open(0) = 0
                40 * add(0, 0, 100)
                add(0, 5, 96) = 4096
                count(6) = 4096
                segment(4095, 4) = 4096
                segment(4096, 4) = missing
                commit() = 1
                count(0) = 8195
                count(1) = 4097
                reader(0) = 1
                seen(1, 2) = 4096
                value(1, 0) = 5
                value(1, 96) = 0
                value(1, 100) = missing
                many(1, 95) = 41
                many(1, 96) = 40
                close() = 1
                open(0) = 4096
                merge(1) = 1
                finish(1, true) = 1
                close() = 2
                count(1) = 4098
                seen(1, 2) = 4096
                release(1)
                count(1) = 2
                """);
        the.sentence("(those of a call in which POWER was lost then, too)");
        the.run("""
                # Entry 16 of the call fills the buffer, its write is lost: 80 are left.
                open(0) = 0
                40 * add(0, 0, 100)
                rollback()
                open(0) = 0
                power(0)
                add(0, 0, 96) = power
                open(0) = 0
                add(0, 0, 81) = full
                add(0, 0, 80) = 80
                add(0, 0, 1) = full
                """);
        the.run("""
                # The last of all is lost.
                open(0) = 0
                40 * add(0, 0, 100)
                add(0, 0, 80) = 4080
                power(0)
                add(0, 0, 16) = power
                open(0) = 0
                add(0, 0, 1) = full
                """);
        the.run("""
                # And those that other calls lost with the power had left in the buffer.
                limits(10000, 4)
                open(0) = 0
                40 * add(0, 0, 100)
                power(0)
                flush() = power
                open(0) = 0
                add(0, 0, 97) = full
                add(0, 0, 96) = 96
                """);
    }

    private static void lifetimeOfReadersAndMerges() {
        the.sentence("at most 4 READERS are open, at most 4 MERGES run.");
        the.run("""
                open(0) = 0
                commit() = 1
                reader(0) = 1
                reader(1) = 2
                reader(0) = 3
                reader(1) = 4
                count(2) = 4
                reader(0) = full
                reader(1) = full
                count(2) = 4
                release(3)
                reader(0) = 5
                reader(0) = full
                crash()
                reader(0) = 6
                reader(0) = 7
                reader(0) = 8
                reader(0) = 9
                reader(0) = full
                """);
        the.run("""
                limits(1, 2)
                open(0) = 0
                add(1, 0, 10) = 10
                merge(0) = 1
                merge(0) = 2
                merge(0) = 3
                merge(0) = 4
                count(9) = 4
                merge(0) = full
                merge(1) = full
                count(9) = 4
                finish(3, false) = 10
                merge(0) = 5
                merge(0) = full
                rollback()
                open(0) = 0
                count(9) = 0
                add(1, 0, 8) = 8
                merge(0) = 6
                merge(0) = 7
                merge(0) = 8
                merge(0) = 9
                merge(0) = full
                """);
    }

    private static void orderOfRefusals() {
        the.sentence("a number out of range comes first of all; then what isn't open, or is, against what"
                + " is said: IllegalStateException; then a READER, MERGE, FILE that isn't there:"
                + " java.util.NoSuchElementException; then the rest in the order told.");
        the.run("""
                # Out of range before what isn't open or isn't there.
                add(1, 1, 0) = bad
                merge(2) = bad
                reader(2) = bad
                segment(0, 5) = bad
                seen(1, 3) = bad
                harm(0, -1) = bad
                harm(-1, 0) = bad
                open(0) = 0
                open(2) = bad
                open(1) = state
                harm(0, -1) = bad
                harm(-1, 0) = bad
                # What is open before what isn't there.
                harm(0, 0) = state
                segment(0, 5) = bad
                segment(0, 0) = missing
                finish(1, true) = missing
                rollback()
                segment(0, 0) = state
                finish(1, true) = state
                harm(0, 0) = missing
                """);
        the.sentence("\"Missing\" is NoSuchElementException, FULL IndexOutOfBoundsException, CORRUPT"
                + " UnsupportedOperationException, POWER lost ArithmeticException.");
        the.run("""
                # These very classes, not others below them.
                limits(0, 0) = bad
                flush() = state
                reader(0) = missing
                open(0) = 0
                4 * reader(1)
                reader(1) = full
                add(1, 0, 1) = 1
                power(0)
                commit() = power
                open(0) = 0
                close() = 1
                harm(0, 0)
                open(0) = corrupt
                """);
        the.sentence("then the rest in the order told.");
        the.run("""
                # add: bad, not open, full, power.
                limits(10000, 4)
                open(0) = 0
                40 * add(0, 0, 100)
                add(0, 0, 96) = 4096
                limits(1, 4)
                power(0)
                add(0, 0, 101) = bad
                add(0, 0, 1) = full
                count(4) = 1
                flush() = power
                add(0, 0, 101) = bad
                add(0, 0, 1) = state
                """);
        the.run("""
                # merge: bad, not open, full, none to be merged, power.
                limits(1, 2)
                open(0) = 0
                add(1, 0, 8) = 8
                power(4)
                merge(0) = 1
                merge(0) = 2
                merge(0) = 3
                merge(0) = 4
                merge(2) = bad
                merge(0) = full
                merge(1) = full
                finish(1, true) = 7
                merge(1) = missing
                merge(0) = missing
                count(4) = 1
                finish(2, true) = 6
                merge(0) = power
                merge(-1) = bad
                merge(0) = state
                """);
        the.run("""
                # reader: bad, not open, full, none, corrupt, power.
                open(0) = 0
                reader(0) = missing
                add(1, 0, 1) = 1
                4 * reader(1)
                add(1, 0, 1) = 2
                reader(0) = full
                power(0)
                reader(1) = full
                count(4) = 1
                reader(2) = bad
                rollback()
                reader(1) = state
                reader(0) = full
                release(1)
                reader(1) = state
                reader(0) = missing
                """);
        the.run("""
                open(0) = 0
                close() = 1
                harm(0, 0)
                reader(-1) = bad
                reader(0) = corrupt
                open(-1) = bad
                open(0) = corrupt
                open(1) = 0
                open(0) = state
                4 * reader(1)
                reader(0) = full
                release(2)
                reader(0) = corrupt
                """);
        the.run("""
                # harm: bad, open, not there, harmed.
                open(0) = 0
                close() = 1
                harm(0, 0)
                harm(0, -1) = bad
                harm(1, 0) = missing
                harm(0, 0) = state
                open(1) = 0
                harm(1, 0) = state
                reader(1) = 1
                rollback()
                harm(1, 0) = state
                harm(-1, 0) = bad
                release(1)
                harm(1, 0) = missing
                """);
    }

    private static void refusedCallsChangeNothing() {
        the.sentence("A refused call changes nothing, but what is done before POWER is lost.");
        the.run("""
                # Full: not even those entries that there was room for.
                limits(10000, 4)
                open(0) = 0
                40 * add(0, 0, 100)
                add(0, 0, 97) = full
                count(10) = 4000
                count(5) = 4000
                add(7, 0, 96) = 4096
                """);
        the.run("""
                # A reader that is refused flushes nothing, a close ends no merge.
                limits(4, 2)
                open(0) = 0
                add(1, 0, 8) = 8
                merge(0) = 1
                4 * reader(1)
                add(1, 0, 3) = 11
                reader(1) = full
                count(5) = 3
                prepare() = 1
                add(1, 0, 1) = 12
                close() = state
                prepare() = state
                count(9) = 1
                count(5) = 1
                count(11) = 1
                segment(0, 3) = 1
                """);
        the.run("""
                # One number of two is bad.
                limits(3, 1) = bad
                limits(0, 2) = bad
                open(0) = 0
                add(1, 0, 48) = 48
                count(6) = 3
                merge(0) = missing
                power(1)
                power(-2) = bad
                power(1000001) = bad
                add(1, 0, 16) = 64
                add(1, 0, 16) = power
                """);
        the.run("""
                # Before power is lost: entries, files and numbers of a call that loses it.
                limits(2, 2)
                open(0) = 0
                commit() = 1
                count(0) = 3
                power(3)
                add(1, 0, 6) = 6
                add(7, 0, 1) = 7
                commit() = power
                count(0) = 6
                open(0) = 0
                add(1, 0, 1) = 1
                close() = 2
                # 0 was the first commit's, 1 to 3 were segments: 4 and 5 are new.
                harm(0, 0) = missing
                harm(3, 0) = missing
                harm(4, 0)
                harm(5, 0)
                harm(6, 0) = missing
                """);
    }
}
