import java.io.IOException;

/** The sentences of the document's promises that name a boundary case, each with runs of its own. */
public final class EdgesTest {

    private static Sentences the;

    public static void main(String[] args) throws IOException {
        the = new Sentences();
        promise1();
        promise2();
        promise3();
        promise4();
        promise5();
        promise6();
        promise7();
        promise7OfAllSegments();
        promise8();
        promise9();
        promise10();
        promise11();
        promise12();
        promise13();
        promise14();
        promise15();
        promise16();
        promise17();
        promise18();
        promise19();
        promise20();
        promise21();
        promise22();
        promise23();
        the.end();
    }

    private static void promise1() {
        the.sentence("A DIRECTORY without FILES, no WRITER, no READERS.");
        the.run("""
                count(0) = 0
                count(1) = 0
                count(2) = 0
                count(3) = 0
                count(4) = 0
                count(5) = 0
                count(6) = 0
                count(7) = 0
                count(8) = 0
                count(9) = 0
                count(10) = 0
                count(11) = 0
                harm(0, 0) = missing
                reader(0) = missing
                release(1) = missing
                rollback() = state
                open(0) = 0
                """);
    }

    private static void promise2() {
        the.sentence("(mode 0; none there: without SEGMENTS, the latest SERIAL 0)");
        the.run("""
                open(0) = 0
                count(10) = 0
                count(6) = 0
                add(1, 0, 20) = 20
                rollback()
                # Nothing was committed.
                open(0) = 0
                count(10) = 0
                count(5) = 0
                count(7) = 0
                """);
        the.run("""
                # A commit without segments, too.
                open(0) = 0
                add(1, 0, 1) = 1
                erase(1) = 1
                close() = 1
                open(0) = 0
                count(10) = 1
                """);
        the.sentence("or without SEGMENTS, the latest SERIAL 0 (mode 1).");
        the.run("""
                open(1) = 0
                add(1, 0, 20) = 20
                erase(3) = 1
                close() = 1
                open(1) = 0
                count(6) = 0
                count(7) = 0
                count(8) = 0
                count(10) = 0
                count(1) = 4
                add(1, 0, 1) = 1
                rollback()
                # The commit is what it was.
                open(0) = 2
                count(7) = 19
                count(8) = 1
                count(10) = 20
                """);
        the.sentence("Not if one is open.");
        the.run("""
                open(0) = 0
                add(1, 0, 1) = 1
                open(0) = state
                open(1) = state
                count(5) = 1
                count(10) = 1
                commit() = 1
                open(0) = state
                rollback()
                open(0) = 1
                """);
        the.sentence("A WRITER is opened, with the SEGMENTS, LIVE ENTRIES and latest SERIAL of THE COMMIT");
        the.run("""
                open(-1) = bad
                open(2) = bad
                open(MIN) = bad
                open(MAX) = bad
                count(4) = 0
                open(0) = 0
                open(-1) = bad
                open(2) = bad
                close() = 1
                """);
        the.sentence("Mode 0, CORRUPT: so.");
        the.run("""
                open(0) = 0
                add(1, 0, 1) = 1
                close() = 1
                harm(1, 0)
                open(0) = corrupt
                count(4) = 0
                open(0) = corrupt
                open(1) = 0
                count(4) = 1
                rollback()
                # It is still the commit.
                open(0) = corrupt
                count(3) = 1
                count(1) = 2
                """);
        the.sentence("(SEGMENTS of THE COMMIT without LIVE ENTRIES are gone at once.)");
        the.run("""
                limits(1, 2)
                open(0) = 0
                add(1, 0, 3) = 3
                merge(0) = 1
                erase(1) = 1
                commit() = 1
                reader(0) = 1
                seen(1, 2) = 3
                seen(1, 1) = 3
                seen(1, 0) = 2
                rollback()
                open(0) = 2
                count(6) = 2
                count(8) = 0
                segment(0, 4) = 2
                # The commit still needs its files: three segments, a list, its own.
                count(1) = 5
                commit() = 2
                count(1) = 4
                release(1)
                count(1) = 3
                """);
        the.run("""
                # All of them.
                limits(1, 2)
                open(0) = 0
                add(1, 0, 2) = 2
                merge(0) = 1
                erase(1) = 1
                erase(2) = 1
                commit() = 1
                rollback()
                open(0) = 0
                count(10) = 2
                """);
        the.sentence("FILES that nothing needs go.");
        the.run("""
                open(0) = 0
                add(1, 0, 1) = 1
                prepare() = 1
                crash()
                count(1) = 2
                open(0) = 0
                count(1) = 0
                add(1, 0, 1) = 1
                prepare() = 1
                crash()
                open(1) = 0
                count(1) = 0
                """);
    }

    private static void promise3() {
        the.sentence("The BUFFER's limit (1 .. 10000) and FACTOR (2 .. 64)");
        the.run("""
                limits(1, 2)
                limits(10000, 64)
                limits(1, 64)
                limits(10000, 2)
                limits(0, 2) = bad
                limits(-1, 2) = bad
                limits(10001, 2) = bad
                limits(1, 1) = bad
                limits(1, 0) = bad
                limits(1, -2) = bad
                limits(1, 65) = bad
                limits(0, 65) = bad
                limits(MIN, 2) = bad
                limits(MAX, 2) = bad
                limits(1, MIN) = bad
                limits(1, MAX) = bad
                """);
        the.run("""
                # 1: every entry is a segment; 2: two of them are merged.
                limits(1, 2)
                open(0) = 0
                add(1, 0, 1) = 1
                count(6) = 1
                count(5) = 0
                merge(0) = missing
                add(1, 0, 1) = 2
                merge(0) = 1
                """);
        the.run("""
                # 10000: more than there ever are.
                limits(10000, 64)
                open(0) = 0
                40 * add(0, 0, 100)
                add(0, 0, 96) = 4096
                count(5) = 4096
                count(6) = 0
                flush() = 1
                segment(0, 0) = 4096
                segment(0, 2) = 2
                """);
        the.sentence("from now on, for all WRITERS (none need be open; nothing is FLUSHED by that).");
        the.run("""
                limits(3, 2)
                open(0) = 0
                add(1, 0, 4) = 4
                count(6) = 1
                rollback()
                open(0) = 0
                add(1, 0, 2) = 2
                limits(1, 2)
                count(5) = 2
                count(0) = 1
                add(1, 0, 1) = 3
                count(5) = 0
                count(6) = 1
                crash()
                open(1) = 0
                add(1, 0, 2) = 2
                count(6) = 2
                merge(0) = 1
                # A refused one leaves both.
                limits(100, 1) = bad
                add(1, 0, 1) = 3
                count(6) = 3
                limits(0, 3) = bad
                add(1, 0, 1) = 4
                merge(0) = 2
                """);
    }

    private static void promise4() {
        the.sentence("n (1 .. 100) ENTRIES are added");
        the.run("""
                open(0) = 0
                add(1, 0, 0) = bad
                add(1, 0, -1) = bad
                add(1, 0, 101) = bad
                add(1, 0, MIN) = bad
                add(1, 0, MAX) = bad
                count(10) = 0
                add(1, 0, 1) = 1
                add(1, 0, 100) = 101
                count(7) = 101
                rollback()
                add(1, 0, 0) = bad
                add(1, 0, 101) = bad
                """);
        the.sentence("with KEYS key, key + 1, .. (wrapping), all with the VALUE.");
        the.run("""
                open(0) = 0
                add(MAX, MIN, 2) = 2
                add(2147483597, MAX, 100) = 102
                add(MIN, 7, 1) = 103
                add(-1, -7, 3) = 106
                reader(1) = 1
                many(1, MAX) = 2
                many(1, MIN) = 3
                many(1, 2147483597) = 1
                many(1, 2147483596) = 0
                many(1, -2147483600) = 1
                many(1, -2147483599) = 0
                value(1, MAX) = 2147483647
                value(1, -2147483600) = 2147483647
                value(1, MIN) = 7
                value(1, -1) = -7
                value(1, 0) = -7
                value(1, 1) = -7
                value(1, 2) = missing
                """);
        the.run("""
                open(0) = 0
                add(MAX, MIN, 1) = 1
                reader(1) = 1
                value(1, MAX) = -2147483648
                many(1, MIN) = 0
                """);
        the.sentence("The WRITER must be open. More than 4096 ever: FULL. Answers the latest SERIAL.");
        the.run("""
                add(1, 0, 1) = state
                open(0) = 0
                add(1, 0, 1) = 1
                rollback()
                add(1, 0, 1) = state
                open(0) = 0
                40 * add(1, 0, 100)
                add(1, 0, 96) = full
                add(1, 0, 95) = 4095
                add(1, 0, 1) = full
                count(10) = 4095
                rollback()
                add(1, 0, 1) = state
                """);
        the.run("""
                # Power is lost in the midst: what was added before is gone with the writer.
                open(0) = 0
                power(2)
                add(1, 0, 47) = 47
                count(5) = 15
                add(1, 0, 1) = power
                count(0) = 2
                count(1) = 0
                count(4) = 0
                open(0) = 0
                power(5)
                add(1, 0, 100) = power
                count(0) = 7
                open(0) = 0
                power(6)
                add(1, 0, 100) = 100
                """);
    }

    private static void promise5() {
        the.sentence("All LIVE ENTRIES with that KEY, in SEGMENTS and the BUFFER, are DELETED.");
        the.run("""
                limits(3, 2)
                open(0) = 0
                erase(1) = 0
                add(1, 0, 2) = 2
                add(1, 0, 2) = 4
                add(1, 0, 1) = 5
                count(6) = 1
                count(5) = 2
                # Keys 1, 2, 1 in the segment, 2, 1 in the buffer.
                erase(1) = 3
                count(7) = 2
                count(8) = 3
                erase(1) = 0
                count(8) = 3
                erase(3) = 0
                erase(0) = 0
                erase(2) = 2
                count(7) = 0
                count(6) = 0
                count(5) = 2
                count(8) = 2
                erase(2) = 0
                """);
        the.run("""
                # Keys at the ends, and one beside them.
                open(0) = 0
                add(MAX, 0, 2) = 2
                erase(2147483646) = 0
                erase(-2147483647) = 0
                erase(MIN) = 1
                erase(MAX) = 1
                """);
        the.run("""
                # In segments of running merges, too; no action, so that no power is lost.
                limits(1, 2)
                open(0) = 0
                add(1, 0, 2) = 2
                merge(0) = 1
                power(0)
                erase(1) = 1
                erase(1) = 0
                finish(1, true) = 1
                segment(0, 1) = 1
                erase(2) = 1
                count(6) = 0
                count(4) = 1
                """);
        the.run("""
                # A reader and the commit keep theirs.
                open(0) = 0
                add(1, 5, 1) = 1
                commit() = 1
                reader(0) = 1
                reader(1) = 2
                erase(1) = 1
                many(1, 1) = 1
                many(2, 1) = 1
                reader(0) = 3
                many(3, 1) = 1
                rollback()
                erase(1) = state
                """);
        the.sentence("The WRITER must be open. Answers how many.");
        the.run("""
                erase(1) = state
                open(0) = 0
                erase(1) = 0
                40 * add(0, 0, 100)
                erase(0) = 40
                add(0, 0, 96) = 4096
                erase(0) = 1
                erase(95) = 41
                erase(96) = 40
                crash()
                erase(1) = state
                """);
    }

    private static void promise6() {
        the.sentence("FLUSH. The WRITER must be open. Answers how many SEGMENTS.");
        the.run("""
                flush() = state
                open(0) = 0
                flush() = 0
                add(1, 0, 1) = 1
                flush() = 1
                flush() = 1
                add(2, 0, 1) = 2
                flush() = 2
                # None is live: as many as before.
                add(3, 0, 1) = 3
                erase(3) = 1
                flush() = 2
                # No action is needed, none is lost; then one is.
                power(0)
                flush() = 2
                add(3, 0, 1) = 4
                flush() = power
                count(4) = 0
                count(0) = 2
                flush() = state
                """);
    }

    private static void promise7() {
        the.sentence("A MERGE begins: by POLICY (how 0), or of all SEGMENTS (how 1)");
        the.run("""
                merge(-1) = bad
                merge(2) = bad
                merge(0) = state
                merge(1) = state
                open(0) = 0
                merge(MIN) = bad
                merge(MAX) = bad
                merge(-1) = bad
                merge(2) = bad
                merge(0) = missing
                merge(1) = missing
                # The buffer isn't flushed for it.
                add(1, 0, 2) = 2
                merge(1) = missing
                count(5) = 2
                """);
        the.sentence("4 running: FULL; none to be merged: missing.");
        the.run("""
                limits(1, 2)
                open(0) = 0
                add(1, 0, 8) = 8
                merge(0) = 1
                merge(0) = 2
                merge(0) = 3
                merge(0) = 4
                merge(0) = full
                merge(1) = full
                finish(4, false) = 8
                merge(1) = missing
                merge(0) = 5
                merge(0) = full
                finish(5, true) = 7
                merge(0) = missing
                """);
        the.sentence("Answers the MERGE's number: 1, 2, 3 .. in all (none is used up when POWER is lost; so"
                + " for READERS).");
        the.run("""
                limits(1, 2)
                open(0) = 0
                add(1, 0, 4) = 4
                merge(0) = 1
                merge(2) = bad
                merge(1) = missing
                merge(0) = 2
                merge(0) = missing
                finish(1, true) = 3
                finish(2, false) = 3
                merge(0) = 3
                power(0)
                # Power is not lost by a refused one.
                merge(1) = missing
                finish(3, false) = 3
                merge(0) = power
                count(0) = 7
                open(0) = 0
                add(1, 0, 2) = 2
                merge(0) = 4
                rollback()
                open(0) = 0
                add(1, 0, 2) = 2
                merge(0) = 5
                """);
        the.run("""
                # So for readers.
                open(0) = 0
                add(1, 0, 1) = 1
                power(0)
                reader(1) = power
                count(2) = 0
                reader(0) = missing
                reader(1) = state
                open(0) = 0
                add(1, 0, 1) = 1
                reader(1) = 1
                add(1, 0, 1) = 2
                power(0)
                reader(1) = power
                open(0) = 0
                reader(1) = 2
                """);
    }

    private static void promise7OfAllSegments() {
        the.sentence("if none is in a MERGE and there are two or more, or one with ENTRIES that aren't LIVE.");
        the.run("""
                limits(2, 2)
                open(0) = 0
                merge(1) = missing
                add(1, 0, 2) = 2
                # One, all live.
                merge(1) = missing
                erase(1) = 1
                merge(1) = 1
                segment(0, 3) = 1
                # It is in a merge.
                merge(1) = missing
                finish(1, true) = 1
                segment(0, 0) = 1
                segment(0, 4) = 2
                merge(1) = missing
                # Two, all live.
                add(3, 0, 2) = 4
                merge(1) = 2
                segment(0, 3) = 2
                segment(1, 3) = 2
                # Others, but one is in a merge.
                add(5, 0, 4) = 8
                merge(1) = missing
                segment(2, 3) = 0
                finish(2, false) = 4
                merge(1) = 3
                segment(3, 3) = 3
                finish(3, true) = 1
                segment(0, 0) = 7
                """);
        the.run("""
                # More than FACTOR, of any level.
                limits(1, 2)
                open(0) = 0
                add(1, 0, 100) = 100
                merge(1) = 1
                segment(0, 3) = 1
                segment(99, 3) = 1
                finish(1, true) = 1
                segment(0, 0) = 100
                add(1, 0, 1) = 101
                merge(1) = 2
                finish(2, true) = 1
                segment(0, 0) = 101
                """);
    }

    private static void promise8() {
        the.sentence("MERGE m ends (keep), or is given up.");
        the.run("""
                finish(1, true) = state
                finish(0, false) = state
                limits(1, 2)
                open(0) = 0
                finish(1, true) = missing
                add(1, 0, 4) = 4
                merge(0) = 1
                merge(0) = 2
                finish(0, true) = missing
                finish(-1, true) = missing
                finish(3, true) = missing
                finish(MIN, false) = missing
                finish(MAX, false) = missing
                count(9) = 2
                finish(2, true) = 3
                finish(2, true) = missing
                finish(2, false) = missing
                segment(0, 3) = 1
                segment(2, 3) = 0
                finish(1, false) = 3
                finish(1, true) = missing
                count(9) = 0
                rollback()
                finish(1, true) = state
                """);
        the.run("""
                # Those of a writer that is gone are gone.
                limits(1, 2)
                open(0) = 0
                add(1, 0, 2) = 2
                commit() = 1
                merge(0) = 1
                rollback()
                open(0) = 2
                finish(1, true) = missing
                merge(0) = 2
                crash()
                open(0) = 2
                finish(2, true) = missing
                segment(0, 3) = 0
                merge(0) = 3
                close() = 2
                open(0) = 1
                finish(3, true) = missing
                """);
        the.run("""
                # It takes no action, also if power would be lost by one.
                limits(1, 2)
                open(0) = 0
                add(1, 0, 4) = 4
                merge(0) = 1
                merge(0) = 2
                power(0)
                finish(1, true) = 3
                finish(2, false) = 3
                count(0) = 6
                count(4) = 1
                """);
        the.run("""
                # Segments that come while it runs stand behind its place.
                limits(1, 2)
                open(0) = 0
                add(1, 0, 3) = 3
                merge(1) = 1
                add(4, 0, 2) = 5
                erase(2) = 1
                finish(1, true) = 3
                segment(0, 0) = 3
                segment(0, 1) = 1
                segment(0, 4) = 1
                segment(1, 4) = 4
                segment(2, 4) = 5
                """);
    }

    private static void promise9() {
        the.sentence("The WRITER must be open, and nothing PREPARED.");
        the.run("""
                prepare() = state
                open(0) = 0
                prepare() = 1
                prepare() = state
                count(11) = 1
                commit() = 1
                count(11) = 0
                prepare() = 0
                prepare() = 0
                add(1, 0, 1) = 1
                prepare() = 2
                prepare() = state
                # Also if more has come since.
                add(1, 0, 1) = 2
                prepare() = state
                count(5) = 1
                rollback()
                prepare() = state
                open(0) = 0
                add(1, 0, 1) = 1
                prepare() = 2
                crash()
                prepare() = state
                open(0) = 0
                count(11) = 0
                add(1, 0, 1) = 1
                prepare() = 2
                """);
        the.sentence("Answers the GENERATION to come, 0 if there was nothing to commit.");
        the.run("""
                open(0) = 0
                commit() = 1
                prepare() = 0
                count(11) = 0
                count(0) = 3
                # Nothing is prepared by that: close is not refused.
                power(0)
                prepare() = 0
                close() = 1
                open(0) = 0
                add(1, 0, 1) = 1
                prepare() = power
                count(4) = 0
                count(3) = 1
                open(0) = 0
                add(1, 0, 1) = 1
                prepare() = 2
                """);
    }

    private static void promise10() {
        the.sentence("COMMITS: what is PREPARED; or PREPARES first, if nothing is.");
        the.run("""
                commit() = state
                open(0) = 0
                add(1, 0, 1) = 1
                prepare() = 1
                add(2, 0, 1) = 2
                # What is prepared alone: the buffer stays.
                count(0) = 4
                commit() = 1
                count(0) = 5
                count(5) = 1
                reader(0) = 1
                seen(1, 0) = 1
                commit() = 2
                count(5) = 0
                count(0) = 10
                reader(0) = 2
                seen(2, 0) = 2
                close() = 2
                commit() = state
                """);
        the.sentence("The WRITER must be open. Answers THE COMMIT's GENERATION.");
        the.run("""
                # Nothing to commit: no action, the same generation.
                open(0) = 0
                commit() = 1
                commit() = 1
                count(0) = 3
                power(0)
                commit() = 1
                count(4) = 1
                add(1, 0, 1) = 1
                commit() = power
                count(3) = 1
                """);
        for (int n = 0; n < 5; n++) {
            // A segment's write and sync, the commit's file and its sync, the rename.
            the.run("open(0) = 0\ncommit() = 1\nadd(1, 0, 2) = 2\npower(" + n + ")\ncommit() = power\n"
                    + "count(0) = " + (3 + n) + "\n" + """
                    count(3) = 1
                    count(4) = 0
                    reader(0) = 1
                    seen(1, 0) = 0
                    open(0) = 0
                    count(1) = 1
                    add(1, 0, 1) = 1
                    commit() = 2
                    """);
        }
        the.run("""
                open(0) = 0
                commit() = 1
                add(1, 0, 2) = 2
                power(5)
                commit() = 2
                add(1, 0, 1) = 3
                flush() = power
                """);
    }

    private static void promise11() {
        the.sentence("The WRITER is closed; running MERGES, what is PREPARED, all that isn't in THE COMMIT are"
                + " lost. It must be open.");
        the.run("""
                rollback() = state
                limits(2, 2)
                open(0) = 0
                add(1, 0, 4) = 4
                commit() = 1
                erase(1) = 1
                add(5, 0, 3) = 7
                merge(0) = 1
                prepare() = 2
                power(0)
                rollback()
                count(4) = 0
                count(9) = 0
                count(11) = 0
                count(1) = 3
                rollback() = state
                commit() = state
                open(0) = 2
                count(5) = 0
                count(7) = 4
                count(8) = 0
                count(10) = 4
                count(11) = 0
                commit() = 1
                # Readers stay.
                reader(1) = 1
                rollback()
                seen(1, 0) = 4
                """);
        the.run("""
                open(0) = 0
                add(1, 0, 20) = 20
                rollback()
                count(1) = 0
                count(3) = 0
                reader(0) = missing
                open(0) = 0
                rollback()
                rollback() = state
                """);
    }

    private static void promise12() {
        the.sentence("All running MERGES end (none is given up), in their order; COMMITS; the WRITER is"
                + " closed.");
        the.run("""
                # Four of them; one is without live entries by then.
                limits(1, 2)
                open(0) = 0
                add(1, 0, 9) = 9
                merge(0) = 1
                merge(0) = 2
                merge(0) = 3
                merge(0) = 4
                finish(2, false) = 9
                merge(0) = 5
                erase(5) = 1
                erase(6) = 1
                erase(1) = 1
                close() = 1
                count(4) = 0
                count(9) = 0
                open(0) = 4
                segment(0, 0) = 2
                segment(0, 1) = 1
                segment(1, 4) = 3
                segment(2, 4) = 7
                segment(3, 4) = 9
                # Four segments, a list, the commit's file.
                count(1) = 6
                """);
        the.sentence("It must be open, and nothing PREPARED. Answers the GENERATION.");
        the.run("""
                close() = state
                limits(1, 2)
                open(0) = 0
                add(1, 0, 2) = 2
                merge(0) = 1
                prepare() = 1
                close() = state
                count(9) = 1
                count(11) = 1
                count(6) = 2
                commit() = 1
                close() = 2
                close() = state
                # Nothing to commit: no action.
                open(0) = 1
                count(0) = 12
                power(0)
                close() = 2
                count(0) = 12
                open(0) = 1
                add(3, 0, 1) = power
                close() = state
                """);
        the.run("""
                # Power is lost in it: the commit is what it was.
                limits(4, 2)
                open(0) = 0
                add(1, 0, 8) = 8
                commit() = 1
                merge(0) = 1
                add(9, 0, 1) = 9
                power(5)
                # A segment, two syncs, the commit's file and its sync: the rename is lost.
                close() = power
                count(4) = 0
                count(3) = 1
                open(0) = 2
                count(10) = 8
                """);
    }

    private static void promise13() {
        the.sentence("n more ACTIONS (0 .. 1000000) are done, with the next one POWER is lost (it isn't done,"
                + " nor counted); -1: it isn't lost.");
        the.run("""
                power(-2) = bad
                power(1000001) = bad
                power(MIN) = bad
                power(MAX) = bad
                power(1000000)
                power(-1)
                power(0)
                limits(1, 2)
                open(0) = 0
                count(0) = 0
                add(1, 0, 1) = power
                count(0) = 0
                count(1) = 0
                open(0) = 0
                power(3)
                add(1, 0, 3) = 3
                count(0) = 3
                count(4) = 1
                add(1, 0, 1) = power
                count(0) = 3
                open(0) = 0
                power(0)
                power(-1)
                add(1, 0, 100) = 100
                power(1000000)
                add(1, 0, 100) = 200
                """);
        the.run("""
                # What is no action loses no power.
                limits(2, 2)
                open(0) = 0
                add(1, 0, 4) = 4
                commit() = 1
                merge(0) = 1
                power(0)
                erase(1) = 1
                finish(1, true) = 1
                reader(0) = 1
                reader(1) = 2
                value(1, 2) = 0
                many(2, 1) = 0
                serial(2, 0) = 2
                seen(2, 0) = 3
                segment(0, 0) = 4
                release(1)
                release(2)
                limits(3, 3)
                add(1, 0, 2) = 6
                rollback()
                open(0) = 2
                close() = 1
                harm(0, 0)
                open(1) = 0
                count(4) = 1
                commit() = power
                """);
        the.sentence("In place of a number given before; none any more after POWER was lost, or crash.");
        the.run("""
                limits(1, 2)
                open(0) = 0
                power(1)
                power(2)
                add(1, 0, 2) = 2
                power(5)
                power(0)
                add(1, 0, 1) = power
                # None any more.
                open(0) = 0
                add(1, 0, 9) = 9
                power(0)
                crash()
                open(0) = 0
                add(1, 0, 9) = 9
                # A number outlives the writer.
                power(1)
                rollback()
                open(0) = 0
                add(1, 0, 1) = 1
                add(1, 0, 1) = power
                """);
        the.run("""
                # It is used up by what was done, and a refused one leaves it.
                limits(1, 2)
                open(0) = 0
                power(2)
                add(1, 0, 1) = 1
                power(-2) = bad
                add(1, 0, 1) = 2
                power(1000001) = bad
                add(1, 0, 1) = power
                """);
    }

    private static void promise14() {
        the.sentence("`void crash()`: POWER is lost.");
        the.run("""
                # With nothing there.
                crash()
                crash()
                count(0) = 0
                count(3) = 0
                limits(2, 2)
                open(0) = 0
                add(1, 0, 3) = 3
                crash()
                count(4) = 0
                count(1) = 0
                count(0) = 1
                flush() = state
                open(0) = 0
                add(1, 0, 2) = 2
                commit() = 1
                reader(0) = 1
                erase(1) = 1
                prepare() = 2
                crash()
                count(2) = 0
                count(3) = 1
                count(11) = 0
                # Segment and file of the commit, list and file of what was prepared.
                count(1) = 4
                seen(1, 0) = missing
                # No writer, but readers.
                reader(0) = 2
                crash()
                count(2) = 0
                release(2) = missing
                reader(0) = 3
                open(0) = 1
                count(1) = 2
                count(7) = 2
                """);
    }

    private static void promise15() {
        the.sentence("In FILE f bit n (n modulo the number of its bits) is turned over.");
        the.run("""
                open(0) = 0
                add(1, 0, 1) = 1
                close() = 1
                harm(1, MAX)
                harm(1, MAX) = state
                open(0) = corrupt
                harm(0, 0)
                harm(0, 1) = state
                """);
        the.sentence("Not as long as a WRITER or READER is open; f not there: missing; it was HARMED:"
                + " IllegalStateException, too, after that. f, n below 0: bad.");
        the.run("""
                harm(0, 0) = missing
                harm(MAX, MAX) = missing
                harm(-1, 0) = bad
                harm(0, -1) = bad
                harm(MIN, 0) = bad
                harm(0, MIN) = bad
                open(0) = 0
                add(1, 0, 1) = 1
                commit() = 1
                harm(0, 0) = state
                harm(9, 0) = state
                reader(0) = 1
                rollback()
                harm(0, 0) = state
                harm(9, 0) = state
                reader(0) = 2
                release(1)
                harm(0, 0) = state
                release(2)
                harm(2, 0) = missing
                # None of the refused ones harmed.
                reader(0) = 3
                release(3)
                harm(0, 0)
                harm(0, 0) = state
                harm(1, 0)
                harm(1, 5) = state
                harm(2, 0) = missing
                """);
        the.run("""
                # A file that is gone and a new one in its room: the new one was not harmed.
                open(0) = 0
                close() = 1
                harm(0, 0)
                open(1) = 0
                add(1, 0, 1) = 1
                commit() = 2
                erase(1) = 1
                close() = 3
                harm(0, 0) = missing
                open(0) = 0
                reader(0) = 1
                """);
    }

    private static void promise16() {
        the.sentence("of THE COMMIT (from 0; none: missing; CORRUPT: so), or of the WRITER (from 1; it must be"
                + " open): FLUSH, then its SEGMENTS and what's LIVE.");
        the.run("""
                reader(-1) = bad
                reader(2) = bad
                reader(MIN) = bad
                reader(MAX) = bad
                reader(0) = missing
                reader(1) = state
                open(0) = 0
                reader(0) = missing
                # A writer without entries.
                reader(1) = 1
                seen(1, 0) = 0
                seen(1, 1) = 0
                seen(1, 2) = 0
                count(0) = 0
                add(1, 0, 2) = 2
                erase(1) = 1
                reader(1) = 2
                count(5) = 0
                count(0) = 1
                seen(2, 0) = 1
                seen(2, 1) = 2
                seen(2, 2) = 1
                prepare() = 1
                # What is prepared is not the commit.
                reader(0) = missing
                commit() = 1
                reader(0) = 3
                seen(3, 0) = 1
                add(9, 0, 1) = 3
                reader(0) = 4
                # Of the commit: nothing is flushed.
                count(5) = 1
                seen(4, 0) = 1
                """);
        the.run("""
                # Also without a writer, and of a commit without entries.
                open(0) = 0
                close() = 1
                reader(0) = 1
                seen(1, 0) = 0
                seen(1, 2) = 0
                reader(1) = state
                release(1)
                harm(0, 0)
                reader(0) = corrupt
                count(2) = 0
                """);
        the.run("""
                # It keeps what it saw.
                limits(2, 2)
                open(0) = 0
                add(1, 10, 4) = 4
                reader(1) = 1
                commit() = 1
                reader(0) = 2
                erase(1) = 1
                erase(2) = 1
                add(1, 20, 2) = 6
                merge(1) = 1
                finish(1, true) = 1
                commit() = 2
                rollback()
                open(1) = 0
                commit() = 3
                value(1, 1) = 10
                value(2, 1) = 10
                seen(1, 0) = 4
                seen(2, 2) = 2
                serial(2, 3) = 4
                serial(1, 4) = missing
                """);
        the.sentence("4 open: FULL, before the rest. Answers its number: 1, 2, 3 .. in all.");
        the.run("""
                open(0) = 0
                reader(0) = missing
                reader(1) = 1
                reader(1) = 2
                reader(1) = 3
                reader(1) = 4
                # Before missing.
                reader(0) = full
                add(1, 0, 1) = 1
                power(0)
                # Before the flush.
                reader(1) = full
                count(5) = 1
                power(-1)
                release(1)
                reader(0) = missing
                reader(1) = 5
                reader(1) = full
                seen(1, 0) = missing
                seen(5, 0) = 1
                """);
        the.run("""
                # Before corrupt.
                open(0) = 0
                close() = 1
                harm(0, 0)
                open(1) = 0
                4 * reader(1)
                reader(0) = full
                release(4)
                reader(0) = corrupt
                reader(1) = 5
                """);
    }

    private static void promise17() {
        the.sentence("READER r is closed.");
        the.run("""
                release(0) = missing
                release(1) = missing
                release(-1) = missing
                release(MIN) = missing
                release(MAX) = missing
                open(0) = 0
                reader(1) = 1
                reader(1) = 2
                release(3) = missing
                release(0) = missing
                count(2) = 2
                release(1)
                count(2) = 1
                release(1) = missing
                seen(1, 0) = missing
                many(1, 0) = missing
                value(1, 0) = missing
                serial(1, 0) = missing
                seen(2, 0) = 0
                release(2)
                count(2) = 0
                release(2) = missing
                # Its number is not given again.
                reader(1) = 3
                release(1) = missing
                release(3)
                """);
    }

    private static void promise18() {
        the.sentence("In READER r the VALUE of the last LIVE ENTRY with that KEY. None: missing.");
        the.run("""
                value(1, 1) = missing
                limits(2, 2)
                open(0) = 0
                add(1, 10, 1) = 1
                add(1, 11, 1) = 2
                add(1, 12, 1) = 3
                add(2, 20, 1) = 4
                reader(1) = 1
                # The last one, in the last segment.
                value(1, 1) = 12
                value(1, 2) = 20
                value(1, 3) = missing
                value(1, 0) = missing
                value(0, 1) = missing
                value(2, 1) = missing
                value(-1, 1) = missing
                # None that is live.
                erase(1) = 3
                reader(1) = 2
                value(2, 1) = missing
                value(1, 1) = 12
                # Deleted ones stand before a new one.
                add(1, 13, 1) = 5
                reader(1) = 3
                value(3, 1) = 13
                value(2, 1) = missing
                add(0, MIN, 1) = 6
                add(0, MAX, 1) = 7
                reader(1) = 4
                value(4, 0) = 2147483647
                value(3, 0) = missing
                """);
        the.run("""
                # The first and the last of all there ever are.
                open(0) = 0
                add(MIN, 1, 1) = 1
                40 * add(0, 2, 100)
                add(MIN, 3, 94) = 4095
                add(MAX, 4, 1) = 4096
                reader(1) = 1
                value(1, MAX) = 4
                many(1, MAX) = 1
                value(1, MIN) = 3
                many(1, MIN) = 2
                value(1, -1) = missing
                many(1, -1) = 0
                """);
    }

    private static void promise19() {
        the.sentence("How many LIVE ENTRIES have that KEY in READER r.");
        the.run("""
                many(1, 1) = missing
                limits(2, 2)
                open(0) = 0
                reader(1) = 1
                many(1, 1) = 0
                add(1, 0, 3) = 3
                add(1, 0, 1) = 4
                reader(1) = 2
                many(2, 1) = 2
                many(2, 2) = 1
                many(2, 3) = 1
                many(2, 4) = 0
                many(2, 0) = 0
                many(1, 1) = 0
                erase(1) = 2
                reader(1) = 3
                many(3, 1) = 0
                many(2, 1) = 2
                many(0, 1) = missing
                many(4, 1) = missing
                many(MIN, 1) = missing
                """);
        the.run("""
                # In several segments and what was the buffer.
                open(0) = 0
                40 * add(7, 0, 1)
                reader(1) = 1
                many(1, 7) = 40
                many(1, 8) = 0
                """);
    }

    private static void promise20() {
        the.sentence("The SERIAL of LIVE ENTRY number i (from 0) in READER r. Not there: missing.");
        the.run("""
                serial(1, 0) = missing
                limits(2, 2)
                open(0) = 0
                reader(1) = 1
                serial(1, 0) = missing
                add(1, 0, 6) = 6
                erase(1) = 1
                erase(4) = 1
                erase(6) = 1
                reader(1) = 2
                serial(2, 0) = 2
                serial(2, 1) = 3
                serial(2, 2) = 5
                serial(2, 3) = missing
                serial(2, -1) = missing
                serial(2, MIN) = missing
                serial(2, MAX) = missing
                serial(1, 0) = missing
                serial(3, 0) = missing
                serial(0, 0) = missing
                """);
        the.run("""
                open(0) = 0
                40 * add(0, 0, 100)
                add(0, 0, 96) = 4096
                reader(1) = 1
                serial(1, 0) = 1
                serial(1, 4095) = 4096
                serial(1, 4096) = missing
                erase(95) = 41
                reader(1) = 2
                serial(2, 4054) = 4095
                serial(2, 4055) = missing
                """);
    }

    private static void promise21() {
        the.sentence("Of READER r: ENTRIES LIVE (0), all (1), SEGMENTS (2).");
        the.run("""
                seen(1, -1) = bad
                seen(1, 3) = bad
                seen(1, MIN) = bad
                seen(1, MAX) = bad
                seen(1, 0) = missing
                seen(1, 1) = missing
                seen(1, 2) = missing
                open(0) = 0
                reader(1) = 1
                seen(1, 0) = 0
                seen(1, 1) = 0
                seen(1, 2) = 0
                seen(1, -1) = bad
                seen(1, 3) = bad
                add(1, 0, 20) = 20
                erase(1) = 1
                erase(20) = 1
                reader(1) = 2
                seen(2, 0) = 18
                seen(2, 1) = 20
                seen(2, 2) = 2
                seen(3, 0) = missing
                seen(0, 0) = missing
                merge(1) = 1
                finish(1, true) = 1
                reader(1) = 3
                seen(3, 0) = 18
                seen(3, 1) = 18
                seen(3, 2) = 1
                """);
        the.run("""
                # A segment without live entries, in a running merge, counts in all.
                limits(1, 2)
                open(0) = 0
                add(1, 0, 2) = 2
                merge(0) = 1
                erase(1) = 1
                reader(1) = 1
                seen(1, 0) = 1
                seen(1, 1) = 2
                seen(1, 2) = 2
                finish(1, true) = 1
                seen(1, 2) = 2
                """);
    }

    private static void promise22() {
        the.sentence("Of SEGMENT i (from 0) of the WRITER: ENTRIES (0), of them not LIVE (1), LEVEL (2), the"
                + " MERGE it's in, 0 for none (3), its first ENTRY's SERIAL (4).");
        the.run("""
                segment(0, -1) = bad
                segment(0, 5) = bad
                segment(0, MIN) = bad
                segment(0, MAX) = bad
                limits(4, 4)
                open(0) = 0
                segment(0, -1) = bad
                segment(0, 5) = bad
                add(1, 0, 8) = 8
                segment(0, 5) = bad
                segment(9, 5) = bad
                segment(0, 0) = 4
                segment(0, 1) = 0
                segment(0, 2) = 1
                segment(0, 3) = 0
                segment(0, 4) = 1
                # Its first entry, live or not.
                erase(1) = 1
                segment(0, 0) = 4
                segment(0, 1) = 1
                segment(0, 2) = 0
                segment(0, 4) = 1
                segment(1, 0) = 4
                segment(1, 1) = 0
                segment(1, 4) = 5
                merge(1) = 1
                segment(0, 3) = 1
                segment(1, 3) = 1
                finish(1, true) = 1
                segment(0, 0) = 7
                segment(0, 1) = 0
                segment(0, 3) = 0
                segment(0, 4) = 2
                """);
        the.sentence("The WRITER must be open. Not there: missing.");
        the.run("""
                segment(0, 0) = state
                segment(-1, 0) = state
                open(0) = 0
                segment(0, 0) = missing
                # The buffer is no segment.
                add(1, 0, 2) = 2
                segment(0, 0) = missing
                flush() = 1
                segment(0, 0) = 2
                segment(1, 0) = missing
                segment(-1, 0) = missing
                segment(MIN, 4) = missing
                segment(MAX, 4) = missing
                rollback()
                segment(0, 0) = state
                """);
    }

    private static void promise23() {
        the.sentence("ACTIONS so far (0), FILES there (1), READERS open (2), THE COMMIT's GENERATION, 0 for none"
                + " (3), 1 if the WRITER is open, else 0 (4).");
        the.run("""
                open(0) = 0
                count(3) = 0
                count(4) = 1
                add(1, 0, 2) = 2
                reader(1) = 1
                commit() = 1
                count(0) = 5
                count(1) = 2
                count(2) = 1
                count(3) = 1
                rollback()
                count(0) = 5
                count(1) = 2
                count(2) = 1
                count(3) = 1
                count(4) = 0
                crash()
                count(0) = 5
                count(1) = 2
                count(2) = 0
                count(3) = 1
                """);
        the.sentence("If it's open, else 0: ENTRIES in the BUFFER (5), SEGMENTS (6), ENTRIES LIVE (7), not LIVE"
                + " (8), in BUFFER and SEGMENTS; running MERGES (9); the latest SERIAL (10); 1 if something is"
                + " PREPARED, else 0 (11).");
        the.run("""
                limits(2, 2)
                open(0) = 0
                add(1, 0, 5) = 5
                merge(0) = 1
                erase(1) = 1
                erase(5) = 1
                count(5) = 1
                count(6) = 2
                count(7) = 3
                count(8) = 2
                count(9) = 1
                count(10) = 5
                count(11) = 0
                prepare() = 1
                # The buffer's entry was not live: it is lost.
                count(5) = 0
                count(6) = 2
                count(7) = 3
                count(8) = 1
                count(10) = 5
                count(11) = 1
                rollback()
                count(5) = 0
                count(6) = 0
                count(7) = 0
                count(8) = 0
                count(9) = 0
                count(10) = 0
                count(11) = 0
                """);
        the.sentence("Else -1.");
        the.run("""
                count(-1) = -1
                count(12) = -1
                count(MIN) = -1
                count(MAX) = -1
                open(0) = 0
                count(-1) = -1
                count(12) = -1
                count(MIN) = -1
                count(MAX) = -1
                """);
    }
}
