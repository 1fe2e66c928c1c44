import java.util.NoSuchElementException;

/** Each promise of the document by itself: ordinary inputs, the edges that it names, wrong inputs. */
public final class PromisesTest {

    private static final Class<IllegalArgumentException> BAD = IllegalArgumentException.class;
    private static final Class<IllegalStateException> STATE = IllegalStateException.class;
    private static final Class<NoSuchElementException> MISSING = NoSuchElementException.class;
    private static final Class<IndexOutOfBoundsException> FULL = IndexOutOfBoundsException.class;
    private static final Class<UnsupportedOperationException> CORRUPT =
            UnsupportedOperationException.class;
    private static final Class<ArithmeticException> POWER = ArithmeticException.class;

    private static final Check CHECK = new Check();
    private static CommitLedger x;

    public static void main(String[] args) {
        promise1NewObject();
        promise2Open();
        promise2OpenDropsDeadSegments();
        promise3Limits();
        promise4Add();
        promise4AddsAtMost4096Ever();
        promise5Erase();
        promise6Flush();
        promise7MergeByPolicy();
        promise7MergeSkipsRunningMerges();
        promise7MergeAll();
        promise7MergeRefused();
        promise8FinishKept();
        promise8FinishGivenUp();
        promise9Prepare();
        promise9PrepareWritesAndSyncsInOrder();
        promise9PrepareSyncsASegmentBeforeItsList();
        promise9NewSegmentsHaveNoList();
        promise9PrepareIsASnapshot();
        promise10Commit();
        promise10CommitNeedsNoOldFiles();
        promise11Rollback();
        promise12Close();
        promise13Power();
        promise14Crash();
        promise14SyncedFilesStay();
        promise15Harm();
        promise15HarmOfEachFileOfACommit();
        promise16Reader();
        promise16ReaderRefused();
        promise17Release();
        promise18Value();
        promise19Many();
        promise20Serial();
        promise21Seen();
        promise22Segment();
        promise23Count();
        CHECK.end();
    }

    // The calls, so that each row below tells only the arguments and what is due.

    private static void fresh(String part) {
        CHECK.part(part);
        x = new CommitLedger();
    }

    private static void open(int mode, int due) {
        CHECK.answers(due, "open(" + mode + ")", () -> x.open(mode));
    }

    private static void add(int key, int value, int n, int due) {
        CHECK.answers(due, "add(" + key + ", " + value + ", " + n + ")", () -> x.add(key, value, n));
    }

    private static void erase(int key, int due) {
        CHECK.answers(due, "erase(" + key + ")", () -> x.erase(key));
    }

    private static void flush(int due) {
        CHECK.answers(due, "flush()", () -> x.flush());
    }

    private static void merge(int how, int due) {
        CHECK.answers(due, "merge(" + how + ")", () -> x.merge(how));
    }

    private static void finish(int m, boolean keep, int due) {
        CHECK.answers(due, "finish(" + m + ", " + keep + ")", () -> x.finish(m, keep));
    }

    private static void prepare(int due) {
        CHECK.answers(due, "prepare()", () -> x.prepare());
    }

    private static void commit(int due) {
        CHECK.answers(due, "commit()", () -> x.commit());
    }

    private static void close(int due) {
        CHECK.answers(due, "close()", () -> x.close());
    }

    private static void reader(int from, int due) {
        CHECK.answers(due, "reader(" + from + ")", () -> x.reader(from));
    }

    private static void value(int r, int key, int due) {
        CHECK.answers(due, "value(" + r + ", " + key + ")", () -> x.value(r, key));
    }

    private static void many(int r, int key, int due) {
        CHECK.answers(due, "many(" + r + ", " + key + ")", () -> x.many(r, key));
    }

    private static void serial(int r, int i, int due) {
        CHECK.answers(due, "serial(" + r + ", " + i + ")", () -> x.serial(r, i));
    }

    private static void seen(int r, int live, int all, int segments) {
        CHECK.answers(live, "seen(" + r + ", 0)", () -> x.seen(r, 0));
        CHECK.answers(all, "seen(" + r + ", 1)", () -> x.seen(r, 1));
        CHECK.answers(segments, "seen(" + r + ", 2)", () -> x.seen(r, 2));
    }

    private static void segment(int i, int... due) {
        for (int what = 0; what < due.length; what++) {
            int asked = what;
            CHECK.answers(due[what], "segment(" + i + ", " + what + ")", () -> x.segment(i, asked));
        }
    }

    private static void count(int what, int due) {
        CHECK.answers(due, "count(" + what + ")", () -> x.count(what));
    }

    private static void refused(Class<? extends RuntimeException> due, String call, Check.Deed made) {
        CHECK.refuses(due, call, made);
    }

    // The promises.

    private static void promise1NewObject() {
        fresh("1 new object");
        for (int what = 0; what <= 11; what++) {
            count(what, 0);
        }
        refused(MISSING, "reader(0)", () -> x.reader(0));
        refused(MISSING, "harm(0, 0)", () -> x.harm(0, 0));
        refused(MISSING, "release(1)", () -> x.release(1));
        refused(STATE, "add", () -> x.add(1, 1, 1));
        CommitLedger other = x;
        fresh("1 new object");
        open(0, 0);
        CHECK.answers(0, "count(4) of another object", () -> other.count(4));
    }

    private static void promise2Open() {
        fresh("2 open");
        refused(BAD, "open(-1)", () -> x.open(-1));
        refused(BAD, "open(2)", () -> x.open(2));
        open(0, 0);
        count(10, 0);
        refused(STATE, "open(0)", () -> x.open(0));
        refused(STATE, "open(1)", () -> x.open(1));
        refused(BAD, "open(2)", () -> x.open(2));
        add(1, 10, 16, 16);
        add(17, 10, 4, 20);
        erase(3, 1);
        close(1);
        open(0, 2);
        count(7, 19);
        count(8, 1);
        count(10, 20);
        add(50, 1, 1, 21);
        x.rollback();
        open(1, 0);
        count(7, 0);
        count(8, 0);
        count(10, 0);
        add(50, 1, 1, 1);
        x.rollback();
        open(0, 2);
        count(5, 0);
        count(10, 20);
        x.rollback();
        x.harm(0, 5);
        refused(CORRUPT, "open(0)", () -> x.open(0));
        count(4, 0);
        open(1, 0);
        refused(STATE, "open(0)", () -> x.open(0));
    }

    /** A commit may have a segment without live entries while that is in a running merge. */
    private static void promise2OpenDropsDeadSegments() {
        fresh("2 open drops dead segments");
        x.limits(1, 2);
        open(0, 0);
        add(1, 0, 3, 3);
        merge(0, 1);
        erase(1, 1);
        count(6, 3);
        commit(1);
        count(1, 6);
        reader(0, 1);
        seen(1, 2, 3, 3);
        x.rollback();
        open(0, 2);
        segment(0, 1, 0, 0, 0, 2);
        count(1, 5);
        count(3, 1);
        commit(2);
        count(1, 4);
        x.release(1);
        count(1, 3);
    }

    private static void promise3Limits() {
        fresh("3 limits");
        refused(BAD, "limits(0, 2)", () -> x.limits(0, 2));
        refused(BAD, "limits(10001, 2)", () -> x.limits(10001, 2));
        refused(BAD, "limits(1, 1)", () -> x.limits(1, 1));
        refused(BAD, "limits(1, 65)", () -> x.limits(1, 65));
        open(0, 0);
        add(0, 0, 15, 15);
        count(6, 0);
        add(0, 0, 1, 16);
        count(6, 1);
        segment(0, 16, 0, 2);
        x.limits(10000, 64);
        segment(0, 16, 0, 0);
        for (int i = 1; i <= 30; i++) {
            add(0, 0, 100, 16 + 100 * i);
        }
        count(6, 1);
        x.limits(3, 16);
        count(5, 3000);
        count(6, 1);
        segment(0, 16, 0, 1);
        add(0, 0, 1, 3017);
        count(5, 0);
        count(6, 2);
        add(0, 0, 8, 3025);
        count(6, 4);
        count(5, 2);
        x.rollback();
        x.limits(1, 2);
        open(1, 0);
        add(0, 0, 2, 2);
        count(6, 2);
        refused(BAD, "limits(5, 0)", () -> x.limits(5, 0));
        add(0, 0, 1, 3);
        count(6, 3);
    }

    private static void promise4Add() {
        fresh("4 add");
        refused(BAD, "add(1, 1, 0)", () -> x.add(1, 1, 0));
        refused(STATE, "add(1, 1, 1)", () -> x.add(1, 1, 1));
        open(0, 0);
        refused(BAD, "add(1, 1, 0)", () -> x.add(1, 1, 0));
        refused(BAD, "add(1, 1, -1)", () -> x.add(1, 1, -1));
        refused(BAD, "add(1, 1, 101)", () -> x.add(1, 1, 101));
        count(10, 0);
        add(Integer.MAX_VALUE, -7, 3, 3);
        add(5, 50, 1, 4);
        count(5, 4);
        reader(1, 1);
        value(1, Integer.MAX_VALUE, -7);
        value(1, Integer.MIN_VALUE, -7);
        value(1, Integer.MIN_VALUE + 1, -7);
        value(1, 5, 50);
        add(0, 0, 100, 104);
        count(6, 7);
        count(5, 4);
        x.power(0);
        refused(POWER, "add(0, 0, 100)", () -> x.add(0, 0, 100));
        count(4, 0);
        count(1, 0);
    }

    private static void promise4AddsAtMost4096Ever() {
        fresh("4 add, at most 4096 ever");
        open(0, 0);
        for (int i = 1; i <= 40; i++) {
            add(0, 0, 100, 100 * i);
        }
        refused(FULL, "add(0, 0, 97)", () -> x.add(0, 0, 97));
        count(10, 4000);
        x.limits(4, 2);
        x.power(2);
        // Entries 4, 8 and 12 of this call fill the buffer; the third write is lost.
        refused(POWER, "add(0, 0, 50)", () -> x.add(0, 0, 50));
        open(1, 0);
        refused(FULL, "add(0, 0, 85)", () -> x.add(0, 0, 85));
        add(0, 0, 84, 84);
        refused(FULL, "add(0, 0, 1)", () -> x.add(0, 0, 1));
        refused(BAD, "add(0, 0, 0)", () -> x.add(0, 0, 0));
        close(1);
        refused(STATE, "add(0, 0, 1)", () -> x.add(0, 0, 1));
        open(1, 0);
        refused(FULL, "add(0, 0, 1)", () -> x.add(0, 0, 1));
    }

    private static void promise5Erase() {
        fresh("5 erase");
        refused(STATE, "erase(1)", () -> x.erase(1));
        open(0, 0);
        erase(1, 0);
        x.limits(2, 2);
        add(1, 1, 2, 2);
        add(1, 2, 1, 3);
        erase(1, 2);
        erase(1, 0);
        count(5, 1);
        count(7, 1);
        count(8, 2);
        count(6, 1);
        count(1, 1);
        erase(2, 1);
        count(6, 0);
        count(1, 0);
        count(7, 0);
        count(8, 1);
        add(1, 3, 1, 4);
        segment(0, 2, 1, 0, 0, 3);
        x.power(0);
        erase(1, 1);
        count(4, 1);
        count(1, 0);
    }

    private static void promise6Flush() {
        fresh("6 flush");
        refused(STATE, "flush()", () -> x.flush());
        open(0, 0);
        flush(0);
        count(0, 0);
        add(1, 1, 3, 3);
        erase(2, 1);
        flush(1);
        segment(0, 3, 1, 0, 0, 1);
        count(0, 1);
        count(1, 1);
        count(5, 0);
        add(9, 1, 2, 5);
        erase(9, 1);
        erase(10, 1);
        count(5, 2);
        flush(1);
        count(5, 0);
        count(8, 1);
        count(0, 1);
        add(4, 1, 1, 6);
        flush(2);
        segment(1, 1, 0, 0, 0, 6);
        add(4, 1, 1, 7);
        x.power(0);
        refused(POWER, "flush()", () -> x.flush());
        count(4, 0);
        refused(STATE, "flush()", () -> x.flush());
    }

    private static void promise7MergeByPolicy() {
        fresh("7 merge by policy");
        open(0, 0);
        x.limits(100, 2);
        // Live entries 4, 1, 2, 3, 1, 1: levels 2, 0, 1, 1, 0, 0.
        int[] sizes = {4, 1, 2, 3, 1, 1};
        int serial = 0;
        for (int i = 0; i < sizes.length; i++) {
            serial += sizes[i];
            add(10 * i, i, sizes[i], serial);
            flush(i + 1);
        }
        segment(0, 4, 0, 2, 0, 1);
        segment(2, 2, 0, 1, 0, 6);
        segment(3, 3, 0, 1, 0, 8);
        merge(0, 1);
        segment(3, 3, 0, 1, 0, 8);
        segment(4, 1, 0, 0, 1, 11);
        segment(5, 1, 0, 0, 1, 12);
        merge(0, 2);
        segment(0, 4, 0, 2, 0, 1);
        segment(1, 1, 0, 0, 2, 5);
        segment(2, 2, 0, 1, 2, 6);
        refused(MISSING, "merge(0)", () -> x.merge(0));
        finish(1, true, 5);
        segment(4, 2, 0, 1, 0, 11);
        merge(0, 3);
        segment(3, 3, 0, 1, 3, 8);
        segment(4, 2, 0, 1, 3, 11);
        finish(2, true, 4);
        segment(1, 3, 0, 1, 0, 5);
        merge(0, 4);
        segment(0, 4, 0, 2, 4, 1);
        segment(1, 3, 0, 1, 4, 5);
        count(9, 2);
    }

    /** The level is that of the live entries, and neighbours are counted anew behind a merge. */
    private static void promise7MergeSkipsRunningMerges() {
        fresh("7 merge skips running merges");
        x.limits(1, 3);
        open(0, 0);
        add(1, 0, 5, 5);
        merge(0, 1);
        refused(MISSING, "merge(0)", () -> x.merge(0));
        add(6, 0, 1, 6);
        merge(0, 2);
        segment(2, 1, 0, 0, 1);
        segment(3, 1, 0, 0, 2);
        x.rollback();
        open(1, 0);
        x.limits(3, 3);
        add(1, 0, 6, 6);
        x.limits(1, 3);
        add(7, 0, 1, 7);
        segment(0, 3, 0, 1);
        erase(1, 1);
        segment(0, 3, 1, 0);
        erase(4, 1);
        merge(0, 3);
        segment(1, 3, 1, 0, 3, 4);
        finish(3, true, 1);
        segment(0, 5, 0, 1, 0, 2);
    }

    private static void promise7MergeAll() {
        fresh("7 merge all");
        open(0, 0);
        refused(MISSING, "merge(1)", () -> x.merge(1));
        add(1, 0, 3, 3);
        refused(MISSING, "merge(1) without segments", () -> x.merge(1));
        flush(1);
        refused(MISSING, "merge(1) of one, all live", () -> x.merge(1));
        erase(1, 1);
        merge(1, 1);
        segment(0, 3, 1, 0, 1, 1);
        count(5, 0);
        refused(MISSING, "merge(1) in a merge", () -> x.merge(1));
        finish(1, true, 1);
        segment(0, 2, 0, 0, 0, 2);
        refused(MISSING, "merge(1) of one, all live", () -> x.merge(1));
        add(7, 0, 1, 4);
        flush(2);
        merge(1, 2);
        add(8, 0, 1, 5);
        flush(3);
        add(9, 0, 1, 6);
        flush(4);
        refused(MISSING, "merge(1) beside a merge", () -> x.merge(1));
        finish(2, true, 3);
        merge(1, 3);
        finish(3, true, 1);
        segment(0, 5, 0, 1, 0, 2);
    }

    private static void promise7MergeRefused() {
        fresh("7 merge refused");
        refused(BAD, "merge(-1)", () -> x.merge(-1));
        refused(BAD, "merge(2)", () -> x.merge(2));
        refused(STATE, "merge(0)", () -> x.merge(0));
        refused(STATE, "merge(1)", () -> x.merge(1));
        x.limits(1, 2);
        open(0, 0);
        refused(MISSING, "merge(0)", () -> x.merge(0));
        add(1, 0, 10, 10);
        for (int m = 1; m <= 4; m++) {
            merge(0, m);
        }
        refused(FULL, "merge(0)", () -> x.merge(0));
        refused(FULL, "merge(1)", () -> x.merge(1));
        refused(BAD, "merge(2)", () -> x.merge(2));
        finish(2, false, 10);
        count(0, 14);
        count(1, 13);
        x.power(0);
        refused(POWER, "merge(0)", () -> x.merge(0));
        count(9, 0);
        count(0, 14);
        open(0, 0);
        add(1, 0, 2, 2);
        merge(0, 5);
        x.rollback();
        open(0, 0);
        add(1, 0, 2, 2);
        merge(0, 6);
    }

    private static void promise8FinishKept() {
        fresh("8 finish, kept");
        refused(STATE, "finish(1, true)", () -> x.finish(1, true));
        x.limits(2, 2);
        open(0, 0);
        refused(MISSING, "finish(1, true)", () -> x.finish(1, true));
        refused(MISSING, "finish(0, true)", () -> x.finish(0, true));
        add(1, 10, 6, 6);
        erase(2, 1);
        merge(0, 1);
        add(1, 20, 2, 8);
        erase(3, 1);
        count(1, 5);
        refused(MISSING, "finish(2, true)", () -> x.finish(2, true));
        refused(MISSING, "finish(0, false)", () -> x.finish(0, false));
        x.power(0);
        finish(1, true, 3);
        x.power(-1);
        segment(0, 3, 1, 1, 0, 1);
        segment(1, 2, 0, 1, 0, 5);
        segment(2, 2, 0, 1, 0, 7);
        fresh("8 finish, kept in its place");
        x.limits(1, 2);
        open(0, 0);
        add(1, 0, 4, 4);
        merge(0, 1);
        merge(0, 2);
        finish(2, true, 3);
        segment(2, 2, 0, 1, 0, 3);
        segment(0, 1, 0, 0, 1, 1);
        erase(1, 1);
        erase(2, 1);
        count(6, 3);
        count(1, 4);
        finish(1, true, 1);
        count(1, 1);
        segment(0, 2, 0, 1, 0, 3);
        refused(MISSING, "finish(1, true)", () -> x.finish(1, true));
    }

    private static void promise8FinishGivenUp() {
        fresh("8 finish, given up");
        x.limits(1, 2);
        open(0, 0);
        add(1, 0, 4, 4);
        merge(1, 1);
        count(1, 5);
        erase(2, 1);
        erase(4, 1);
        count(6, 4);
        segment(1, 1, 1, 0, 1, 2);
        finish(1, false, 2);
        count(1, 2);
        segment(0, 1, 0, 0, 0, 1);
        segment(1, 1, 0, 0, 0, 3);
        count(8, 0);
        refused(MISSING, "finish(1, false)", () -> x.finish(1, false));
        merge(1, 2);
        finish(2, true, 1);
        segment(0, 2, 0, 1, 0, 1);
    }

    private static void promise9Prepare() {
        fresh("9 prepare");
        refused(STATE, "prepare()", () -> x.prepare());
        open(0, 0);
        prepare(1);
        count(11, 1);
        count(0, 2);
        count(1, 1);
        count(3, 0);
        refused(STATE, "prepare()", () -> x.prepare());
        refused(STATE, "close()", () -> x.close());
        commit(1);
        count(11, 0);
        prepare(0);
        count(11, 0);
        count(0, 3);
        add(1, 1, 2, 2);
        prepare(2);
        count(5, 0);
        count(6, 1);
        commit(2);
        // The latest serial alone is something to commit.
        add(5, 1, 1, 3);
        erase(5, 1);
        prepare(3);
        count(6, 1);
        commit(3);
        prepare(0);
        erase(1, 1);
        prepare(4);
        commit(4);
        // Other segments with the same entries, too.
        merge(1, 1);
        prepare(0);
        finish(1, true, 1);
        prepare(5);
    }

    /** Power is lost after each number of actions in turn; what was synced by then is there. */
    private static void promise9PrepareWritesAndSyncsInOrder() {
        // Segment 1 is committed with a list; in segments 1 and 2 an entry is deleted then.
        // Write: segment 3, list 1, list 2. Sync: list 1, segment 2, list 2, segment 3. Write the
        // commit's file, sync it.
        int[] there = {3, 3, 3, 3, 4, 5, 6, 7, 7, 8};
        for (int n = 0; n < there.length; n++) {
            fresh("9 prepare in order, power(" + n + ")");
            open(0, 0);
            add(1, 0, 4, 4);
            erase(1, 1);
            commit(1);
            count(1, 3);
            add(11, 0, 4, 8);
            flush(2);
            erase(2, 1);
            erase(12, 1);
            add(21, 0, 4, 12);
            x.power(n);
            if (n < there.length - 1) {
                refused(POWER, "prepare()", () -> x.prepare());
            } else {
                prepare(2);
                x.crash();
            }
            count(1, there[n]);
            count(0, 8 + n);
            reader(0, 1);
            seen(1, 3, 4, 1);
            open(0, 1);
            count(1, 3);
        }
    }

    private static void promise9PrepareSyncsASegmentBeforeItsList() {
        fresh("9 prepare syncs a segment before its list");
        open(0, 0);
        add(1, 0, 2, 2);
        erase(1, 1);
        x.power(3);
        // Segment 0 and list 1 are written, segment 0 is synced.
        refused(POWER, "prepare()", () -> x.prepare());
        count(1, 1);
        refused(MISSING, "harm(1, 0)", () -> x.harm(1, 0));
        x.harm(0, 0);
        fresh("9 prepare writes all lists before it syncs");
        x.limits(2, 2);
        open(0, 0);
        add(1, 0, 4, 4);
        erase(1, 1);
        erase(3, 1);
        x.power(4);
        // Lists 2 and 3 are written; segment 0 and list 2 are synced.
        refused(POWER, "prepare()", () -> x.prepare());
        count(1, 2);
        refused(MISSING, "harm(1, 0)", () -> x.harm(1, 0));
        refused(MISSING, "harm(3, 0)", () -> x.harm(3, 0));
        x.harm(0, 0);
        x.harm(2, 0);
    }

    /** A segment is new without a list, also where one with a list stood before. */
    private static void promise9NewSegmentsHaveNoList() {
        fresh("9 new segments have no list, flushed");
        x.limits(2, 2);
        open(0, 0);
        add(1, 0, 4, 4);
        erase(3, 1);
        commit(1);
        count(1, 4);
        erase(4, 1);
        add(5, 0, 2, 6);
        count(6, 2);
        commit(2);
        count(1, 3);
        fresh("9 new segments have no list, merged");
        x.limits(2, 2);
        open(0, 0);
        add(1, 0, 4, 4);
        erase(1, 1);
        commit(1);
        count(1, 4);
        merge(1, 1);
        finish(1, true, 1);
        commit(2);
        count(1, 2);
        erase(2, 1);
        commit(3);
        count(1, 3);
    }

    private static void promise9PrepareIsASnapshot() {
        fresh("9 prepare is a snapshot");
        x.limits(2, 2);
        open(0, 0);
        add(1, 10, 4, 4);
        prepare(1);
        count(1, 3);
        erase(1, 1);
        erase(2, 1);
        count(6, 1);
        count(1, 3);
        add(7, 70, 2, 6);
        merge(0, 1);
        finish(1, true, 1);
        count(1, 4);
        commit(1);
        reader(0, 1);
        seen(1, 4, 4, 2);
        many(1, 7, 0);
        value(1, 1, 10);
        x.rollback();
        count(1, 3);
        open(0, 2);
        count(10, 4);
        count(7, 4);
    }

    private static void promise10Commit() {
        fresh("10 commit");
        refused(STATE, "commit()", () -> x.commit());
        open(0, 0);
        commit(1);
        count(0, 3);
        commit(1);
        count(0, 3);
        add(1, 1, 20, 20);
        commit(2);
        // Two writes and two syncs of segments, the commit's write and sync, the rename.
        count(0, 10);
        count(1, 3);
        commit(2);
        erase(1, 1);
        commit(3);
        count(0, 15);
        count(1, 4);
        erase(2, 1);
        prepare(4);
        count(1, 6);
        x.power(0);
        refused(POWER, "commit()", () -> x.commit());
        count(3, 3);
        count(1, 6);
        count(0, 19);
        open(0, 2);
        count(1, 4);
        count(7, 19);
        erase(2, 1);
        prepare(4);
        erase(3, 1);
        commit(4);
        count(3, 4);
        count(1, 4);
        x.rollback();
        open(0, 2);
        count(7, 18);
    }

    private static void promise10CommitNeedsNoOldFiles() {
        fresh("10 commit needs no old files");
        x.limits(1, 2);
        open(0, 0);
        add(1, 0, 2, 2);
        commit(1);
        merge(1, 1);
        count(1, 4);
        finish(1, true, 1);
        count(1, 4);
        commit(2);
        count(1, 2);
        erase(1, 1);
        commit(3);
        count(1, 3);
        x.rollback();
        open(1, 0);
        count(1, 3);
        commit(4);
        count(1, 1);
    }

    private static void promise11Rollback() {
        fresh("11 rollback");
        refused(STATE, "rollback()", () -> x.rollback());
        x.limits(2, 2);
        open(0, 0);
        add(1, 0, 4, 4);
        commit(1);
        add(5, 0, 5, 9);
        erase(1, 1);
        merge(0, 1);
        prepare(2);
        reader(1, 1);
        x.rollback();
        count(4, 0);
        count(9, 0);
        count(11, 0);
        count(3, 1);
        // Two segments and the commit's file, and three segments that only the reader needs.
        count(1, 6);
        seen(1, 8, 9, 5);
        x.release(1);
        count(1, 3);
        refused(STATE, "rollback()", () -> x.rollback());
        open(0, 2);
        count(7, 4);
        count(10, 4);
        count(9, 0);
        segment(0, 2, 0, 1, 0, 1);
        prepare(0);
        commit(1);
    }

    private static void promise12Close() {
        fresh("12 close");
        refused(STATE, "close()", () -> x.close());
        open(0, 0);
        close(1);
        count(4, 0);
        x.limits(1, 2);
        open(0, 0);
        add(1, 0, 5, 5);
        merge(0, 1);
        merge(0, 2);
        erase(3, 1);
        close(2);
        count(4, 0);
        refused(STATE, "close()", () -> x.close());
        open(0, 3);
        segment(0, 2, 0, 1, 0, 1);
        segment(1, 2, 1, 0, 0, 3);
        segment(2, 1, 0, 0, 0, 5);
        count(1, 5);
        close(2);
        open(0, 3);
        prepare(0);
        add(9, 0, 1, 6);
        prepare(3);
        refused(STATE, "close()", () -> x.close());
        commit(3);
        merge(1, 3);
        x.power(4);
        // Three actions prepare, the rename is the fourth: this close loses nothing.
        close(4);
        open(0, 1);
        x.limits(16, 2);
        add(8, 0, 1, 7);
        refused(POWER, "close()", () -> x.close());
        count(4, 0);
        count(3, 4);
        open(0, 1);
        count(10, 6);
    }

    private static void promise13Power() {
        fresh("13 power");
        refused(BAD, "power(-2)", () -> x.power(-2));
        refused(BAD, "power(1000001)", () -> x.power(1000001));
        x.power(1000000);
        x.limits(1, 2);
        open(0, 0);
        x.power(2);
        add(1, 0, 2, 2);
        refused(BAD, "power(-2)", () -> x.power(-2));
        refused(POWER, "add(1, 0, 1)", () -> x.add(1, 0, 1));
        count(0, 2);
        count(1, 0);
        open(0, 0);
        add(1, 0, 3, 3);
        count(0, 5);
        x.power(0);
        x.power(1);
        add(1, 0, 1, 4);
        x.power(-1);
        add(1, 0, 3, 7);
        x.power(0);
        x.crash();
        open(0, 0);
        add(1, 0, 1, 1);
        x.power(0);
        // No action, so no power is lost.
        flush(1);
        erase(99, 0);
        x.rollback();
        open(0, 0);
        refused(POWER, "commit()", () -> x.commit());
        open(0, 0);
        commit(1);
    }

    private static void promise14Crash() {
        fresh("14 crash");
        x.crash();
        x.limits(2, 2);
        open(0, 0);
        add(1, 0, 4, 4);
        commit(1);
        add(5, 0, 5, 9);
        merge(0, 1);
        reader(0, 1);
        reader(1, 2);
        x.crash();
        count(4, 0);
        count(2, 0);
        count(3, 1);
        count(1, 3);
        for (int what = 5; what <= 11; what++) {
            count(what, 0);
        }
        refused(MISSING, "many(1, 1)", () -> x.many(1, 1));
        refused(MISSING, "release(2)", () -> x.release(2));
        refused(STATE, "add(1, 0, 1)", () -> x.add(1, 0, 1));
        x.crash();
        reader(0, 3);
        seen(3, 4, 4, 2);
        open(0, 2);
        count(10, 4);
        add(7, 0, 1, 5);
    }

    private static void promise14SyncedFilesStay() {
        fresh("14 synced files stay");
        x.limits(2, 2);
        open(0, 0);
        add(1, 0, 4, 4);
        commit(1);
        reader(0, 1);
        merge(1, 1);
        finish(1, true, 1);
        commit(2);
        count(1, 4);
        add(9, 0, 2, 6);
        x.crash();
        // The reader's segments were synced, and nobody needs them now.
        count(1, 4);
        reader(0, 2);
        x.release(2);
        count(1, 4);
        x.harm(0, 0);
        refused(STATE, "harm(0, 1)", () -> x.harm(0, 1));
        open(0, 1);
        count(1, 2);
        x.rollback();
        refused(MISSING, "harm(0, 0)", () -> x.harm(0, 0));
        refused(MISSING, "harm(1, 0)", () -> x.harm(1, 0));
        x.harm(4, 0);
        refused(CORRUPT, "open(0)", () -> x.open(0));
    }

    private static void promise15Harm() {
        fresh("15 harm");
        refused(BAD, "harm(-1, 0)", () -> x.harm(-1, 0));
        refused(BAD, "harm(0, -1)", () -> x.harm(0, -1));
        refused(MISSING, "harm(0, 0)", () -> x.harm(0, 0));
        open(0, 0);
        refused(BAD, "harm(-1, 0)", () -> x.harm(-1, 0));
        refused(STATE, "harm(0, 0)", () -> x.harm(0, 0));
        add(1, 0, 1, 1);
        commit(1);
        reader(0, 1);
        x.rollback();
        refused(STATE, "harm(0, 0)", () -> x.harm(0, 0));
        refused(STATE, "harm(7, 0)", () -> x.harm(7, 0));
        x.release(1);
        refused(MISSING, "harm(2, 0)", () -> x.harm(2, 0));
        refused(MISSING, "harm(" + Integer.MAX_VALUE + ", 0)", () -> x.harm(Integer.MAX_VALUE, 0));
        x.harm(0, Integer.MAX_VALUE);
        refused(STATE, "harm(0, 1)", () -> x.harm(0, 1));
        refused(BAD, "harm(0, -1)", () -> x.harm(0, -1));
        refused(CORRUPT, "open(0)", () -> x.open(0));
        refused(CORRUPT, "reader(0)", () -> x.reader(0));
        count(3, 1);
        count(1, 2);
        open(1, 0);
        refused(CORRUPT, "reader(0)", () -> x.reader(0));
        add(1, 0, 1, 1);
        commit(2);
        reader(0, 2);
        x.release(2);
        x.rollback();
        open(0, 1);
    }

    private static void promise15HarmOfEachFileOfACommit() {
        // Files: 0 and 1 segments, 2 the list of segment 0, 3 the commit's.
        for (int f = 0; f < 4; f++) {
            int harmed = f;
            fresh("15 harm of file " + f);
            x.limits(2, 2);
            open(0, 0);
            add(1, 0, 4, 4);
            erase(1, 1);
            close(1);
            x.harm(harmed, 3);
            refused(CORRUPT, "open(0)", () -> x.open(0));
            refused(CORRUPT, "reader(0)", () -> x.reader(0));
        }
        fresh("15 harm of a file that the commit has not");
        open(0, 0);
        add(1, 0, 1, 1);
        commit(1);
        add(2, 0, 1, 2);
        prepare(2);
        x.crash();
        x.harm(2, 0);
        x.harm(3, 0);
        reader(0, 1);
        open(0, 1);
    }

    private static void promise16Reader() {
        fresh("16 reader");
        x.limits(2, 2);
        open(0, 0);
        add(1, 10, 3, 3);
        count(5, 1);
        reader(1, 1);
        count(5, 0);
        count(6, 2);
        count(0, 2);
        seen(1, 3, 3, 2);
        commit(1);
        add(1, 20, 3, 6);
        erase(2, 2);
        reader(0, 2);
        count(5, 1);
        seen(2, 3, 3, 2);
        value(2, 2, 10);
        reader(1, 3);
        seen(3, 4, 6, 4);
        merge(1, 1);
        finish(1, true, 1);
        commit(2);
        value(1, 1, 10);
        value(2, 2, 10);
        many(3, 2, 0);
        reader(0, 4);
        seen(4, 4, 4, 1);
        x.release(2);
        reader(0, 5);
        many(5, 1, 2);
        x.rollback();
        value(5, 1, 20);
        fresh("16 reader in a running merge");
        x.limits(1, 2);
        open(0, 0);
        add(1, 0, 2, 2);
        merge(0, 1);
        erase(1, 1);
        reader(1, 1);
        seen(1, 1, 2, 2);
    }

    private static void promise16ReaderRefused() {
        fresh("16 reader refused");
        refused(BAD, "reader(-1)", () -> x.reader(-1));
        refused(BAD, "reader(2)", () -> x.reader(2));
        refused(STATE, "reader(1)", () -> x.reader(1));
        refused(MISSING, "reader(0)", () -> x.reader(0));
        open(0, 0);
        refused(MISSING, "reader(0)", () -> x.reader(0));
        add(1, 0, 1, 1);
        x.power(0);
        refused(POWER, "reader(1)", () -> x.reader(1));
        count(2, 0);
        open(0, 0);
        for (int r = 1; r <= 4; r++) {
            reader(1, r);
        }
        add(1, 0, 1, 1);
        x.power(0);
        refused(FULL, "reader(1)", () -> x.reader(1));
        refused(FULL, "reader(0) without a commit", () -> x.reader(0));
        refused(BAD, "reader(2)", () -> x.reader(2));
        count(5, 1);
        count(4, 1);
        x.rollback();
        refused(STATE, "reader(1)", () -> x.reader(1));
        x.release(2);
        refused(MISSING, "reader(0)", () -> x.reader(0));
        x.power(-1);
        open(0, 0);
        reader(1, 5);
        refused(MISSING, "seen(2, 0)", () -> x.seen(2, 0));
        refused(FULL, "reader(1)", () -> x.reader(1));
    }

    private static void promise17Release() {
        fresh("17 release");
        refused(MISSING, "release(0)", () -> x.release(0));
        refused(MISSING, "release(-1)", () -> x.release(-1));
        open(0, 0);
        add(1, 10, 1, 1);
        reader(1, 1);
        reader(1, 2);
        x.rollback();
        count(1, 1);
        x.release(1);
        count(1, 1);
        count(2, 1);
        refused(MISSING, "release(1)", () -> x.release(1));
        refused(MISSING, "value(1, 1)", () -> x.value(1, 1));
        value(2, 1, 10);
        refused(MISSING, "release(3)", () -> x.release(3));
        refused(MISSING, "release(0)", () -> x.release(0));
        x.release(2);
        count(1, 0);
        count(2, 0);
    }

    private static void promise18Value() {
        fresh("18 value");
        x.limits(2, 2);
        open(0, 0);
        add(5, 1, 1, 1);
        add(6, 2, 1, 2);
        add(5, 3, 1, 3);
        add(7, 4, 1, 4);
        add(7, 5, 1, 5);
        reader(1, 1);
        value(1, 5, 3);
        value(1, 6, 2);
        value(1, 7, 5);
        refused(MISSING, "value(1, 8)", () -> x.value(1, 8));
        refused(MISSING, "value(2, 5)", () -> x.value(2, 5));
        refused(MISSING, "value(0, 5)", () -> x.value(0, 5));
        erase(5, 2);
        add(5, 9, 1, 6);
        value(1, 5, 3);
        reader(1, 2);
        value(2, 5, 9);
        erase(5, 1);
        reader(1, 3);
        refused(MISSING, "value(3, 5)", () -> x.value(3, 5));
        value(2, 5, 9);
    }

    private static void promise19Many() {
        fresh("19 many");
        x.limits(2, 2);
        open(0, 0);
        add(1, 0, 3, 3);
        add(1, 0, 2, 5);
        reader(1, 1);
        many(1, 1, 2);
        many(1, 2, 2);
        many(1, 3, 1);
        many(1, 4, 0);
        erase(1, 2);
        many(1, 1, 2);
        reader(1, 2);
        many(2, 1, 0);
        many(2, 2, 2);
        refused(MISSING, "many(3, 1)", () -> x.many(3, 1));
        refused(MISSING, "many(0, 1)", () -> x.many(0, 1));
    }

    private static void promise20Serial() {
        fresh("20 serial");
        x.limits(2, 2);
        open(0, 0);
        add(1, 0, 6, 6);
        erase(2, 1);
        erase(5, 1);
        reader(1, 1);
        serial(1, 0, 1);
        serial(1, 1, 3);
        serial(1, 2, 4);
        serial(1, 3, 6);
        refused(MISSING, "serial(1, 4)", () -> x.serial(1, 4));
        refused(MISSING, "serial(1, -1)", () -> x.serial(1, -1));
        refused(MISSING, "serial(2, 0)", () -> x.serial(2, 0));
        commit(1);
        x.rollback();
        // A writer without segments begins anew with the serials.
        open(1, 0);
        add(1, 0, 2, 2);
        reader(1, 2);
        serial(2, 0, 1);
        serial(2, 1, 2);
        refused(MISSING, "serial(2, 2)", () -> x.serial(2, 2));
        x.rollback();
        open(0, 3);
        add(9, 0, 1, 7);
        reader(1, 3);
        serial(3, 3, 6);
        serial(3, 4, 7);
    }

    private static void promise21Seen() {
        fresh("21 seen");
        refused(BAD, "seen(1, 3)", () -> x.seen(1, 3));
        refused(BAD, "seen(1, -1)", () -> x.seen(1, -1));
        refused(MISSING, "seen(1, 0)", () -> x.seen(1, 0));
        open(0, 0);
        reader(1, 1);
        seen(1, 0, 0, 0);
        add(1, 0, 20, 20);
        erase(3, 1);
        erase(20, 1);
        reader(1, 2);
        seen(2, 18, 20, 2);
        seen(1, 0, 0, 0);
        refused(BAD, "seen(2, 3)", () -> x.seen(2, 3));
        refused(MISSING, "seen(3, 2)", () -> x.seen(3, 2));
    }

    private static void promise22Segment() {
        fresh("22 segment");
        refused(BAD, "segment(0, 5)", () -> x.segment(0, 5));
        refused(BAD, "segment(0, -1)", () -> x.segment(0, -1));
        refused(STATE, "segment(0, 0)", () -> x.segment(0, 0));
        refused(STATE, "segment(-1, 0)", () -> x.segment(-1, 0));
        open(0, 0);
        refused(MISSING, "segment(0, 0)", () -> x.segment(0, 0));
        add(1, 0, 40, 40);
        segment(0, 16, 0, 2, 0, 1);
        segment(1, 16, 0, 2, 0, 17);
        refused(MISSING, "segment(2, 0)", () -> x.segment(2, 0));
        refused(MISSING, "segment(-1, 0)", () -> x.segment(-1, 0));
        refused(BAD, "segment(2, 5)", () -> x.segment(2, 5));
        erase(1, 1);
        segment(0, 16, 1, 1, 0, 1);
        flush(3);
        segment(2, 8, 0, 1, 0, 33);
        merge(1, 1);
        segment(2, 8, 0, 1, 1, 33);
        for (int key = 33; key <= 40; key++) {
            erase(key, 1);
        }
        segment(2, 8, 8, 0, 1, 33);
        finish(1, true, 1);
        segment(0, 39, 8, 2, 0, 2);
        x.limits(1, 2);
        segment(0, 39, 8, 4, 0, 2);
        erase(2, 1);
        segment(0, 39, 9, 4, 0, 2);
        x.limits(1, 30);
        segment(0, 39, 9, 1, 0, 2);
        x.limits(1, 31);
        segment(0, 39, 9, 0, 0, 2);
    }

    private static void promise23Count() {
        fresh("23 count");
        count(-1, -1);
        count(12, -1);
        count(Integer.MIN_VALUE, -1);
        count(Integer.MAX_VALUE, -1);
        open(0, 0);
        add(1, 0, 18, 18);
        erase(1, 1);
        erase(18, 1);
        int[] before = {1, 1, 0, 0, 1, 2, 1, 16, 2, 0, 18, 0};
        for (int what = 0; what < before.length; what++) {
            count(what, before[what]);
        }
        merge(1, 1);
        reader(1, 1);
        prepare(1);
        int[] after = {11, 6, 1, 0, 1, 0, 2, 16, 2, 1, 18, 1};
        for (int what = 0; what < after.length; what++) {
            count(what, after[what]);
        }
        commit(1);
        x.rollback();
        int[] closed = {12, 5, 1, 1, 0, 0, 0, 0, 0, 0, 0, 0};
        for (int what = 0; what < closed.length; what++) {
            count(what, closed[what]);
        }
        count(12, -1);
    }
}
