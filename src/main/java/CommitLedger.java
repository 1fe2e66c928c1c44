import java.util.ArrayList;
import java.util.NoSuchElementException;

/**
 * A ledger of entries in files that are never changed: one writer adds, deletes, merges and commits
 * in two steps, readers keep what they saw when they were opened, and the directory may lose power
 * between any two writes.
 *
 * <p>Entries are kept once, in the order in which they were ever added. A segment is added behind
 * the others and a merge only joins neighbours, so the segments of a view always stand in that order
 * too: a segment is a stretch of the entries, and what is live in it is told by the view.
 */
public final class CommitLedger {

    private static final int MOST_ENTRIES = 4096;
    private static final int MOST_ADDED_BY_A_CALL = 100;
    private static final int MOST_READERS = 4;
    private static final int MOST_MERGES = 4;
    private static final int FIRST_BUFFER_LIMIT = 16;
    private static final int MOST_BUFFER_LIMIT = 10000;
    private static final int FIRST_FACTOR = 4;
    private static final int LEAST_FACTOR = 2;
    private static final int MOST_FACTOR = 64;
    private static final int MOST_ACTIONS_LEFT = 1000000;
    private static final int POWER_STAYS = -1;
    /** All entries in one segment, at the least factor: 2 to the 12th is 4096. */
    private static final int HIGHEST_LEVEL = 12;

    private final Entries entries;
    private final Directory directory;
    private final View writer;
    private final Merge[] merges;
    private final Reader[] readers;
    private View theCommit;
    private View prepared;
    private boolean writerOpen;
    private boolean isPrepared;
    private int bufferStart;
    private int bufferLimit;
    private int factor;
    private int running;
    private int mergesBegun;
    private int readersOpened;
    private int generation;
    private int actions;
    private int actionsLeft;

    public CommitLedger() {
        entries = new Entries();
        directory = new Directory();
        writer = new View();
        theCommit = new View();
        prepared = new View();
        merges = new Merge[MOST_MERGES];
        for (int i = 0; i < MOST_MERGES; i++) {
            merges[i] = new Merge();
        }
        readers = new Reader[MOST_READERS];
        for (int i = 0; i < MOST_READERS; i++) {
            readers[i] = new Reader();
        }
        bufferLimit = FIRST_BUFFER_LIMIT;
        factor = FIRST_FACTOR;
        actionsLeft = POWER_STAYS;
    }

    public int open(int mode)
            throws IllegalArgumentException, IllegalStateException, UnsupportedOperationException {
        requireRange(mode, 0, 1);
        if (writerOpen) {
            throw new IllegalStateException("the writer is open");
        }
        if (mode == 0 && commitIsCorrupt()) {
            throw new UnsupportedOperationException("the commit is corrupt");
        }
        if (mode == 0 && generation > 0) {
            writer.copyFrom(theCommit);
        } else {
            writer.becomeEmpty();
        }
        writerOpen = true;
        bufferStart = entries.added;
        directory.keepsSynced = false;
        dropDeadSegments();
        dropUnneededFiles();
        return writer.size;
    }

    public void limits(int buffer, int factor) throws IllegalArgumentException {
        requireRange(buffer, 1, MOST_BUFFER_LIMIT);
        requireRange(factor, LEAST_FACTOR, MOST_FACTOR);
        this.bufferLimit = buffer;
        this.factor = factor;
    }

    public int add(int key, int value, int n)
            throws IllegalArgumentException, IllegalStateException, IndexOutOfBoundsException,
            ArithmeticException {
        requireRange(n, 1, MOST_ADDED_BY_A_CALL);
        requireWriter();
        if (entries.added + n > MOST_ENTRIES) {
            throw new IndexOutOfBoundsException("no more entries");
        }
        for (int i = 0; i < n; i++) {
            addEntry(key + i, value);
            if (buffered() >= bufferLimit) {
                flushBuffer();
            }
        }
        return writer.latestSerial;
    }

    public int erase(int key) throws IllegalStateException {
        requireWriter();
        int erased = 0;
        for (int e = 0; e < entries.added; e++) {
            if (writer.live[e] && entries.keys[e] == key) {
                writer.live[e] = false;
                erased++;
            }
        }
        if (erased > 0) {
            dropDeadSegments();
            dropUnneededFiles();
        }
        return erased;
    }

    public int flush() throws IllegalStateException, ArithmeticException {
        requireWriter();
        flushBuffer();
        return writer.size;
    }

    public int merge(int how)
            throws IllegalArgumentException, IllegalStateException, NoSuchElementException,
            IndexOutOfBoundsException, ArithmeticException {
        requireRange(how, 0, 1);
        requireWriter();
        if (running >= MOST_MERGES) {
            throw new IndexOutOfBoundsException("no more merges at once");
        }
        if (how == 1) {
            if (!allCanBeMerged()) {
                throw new NoSuchElementException("nothing to be merged");
            }
            return beginMerge(0, writer.size);
        }
        int first = firstByPolicy();
        if (first < 0) {
            throw new NoSuchElementException("nothing to be merged");
        }
        return beginMerge(first, factor);
    }

    public int finish(int m, boolean keep) throws IllegalStateException, NoSuchElementException {
        requireWriter();
        int at = placeOfMerge(m);
        if (at < 0) {
            throw new NoSuchElementException("no such merge runs");
        }
        endMerge(at, keep);
        return writer.size;
    }

    public int prepare() throws IllegalStateException, ArithmeticException {
        requireWriter();
        requireNothingPrepared();
        return prepareAll() ? generation + 1 : 0;
    }

    public int commit() throws IllegalStateException, ArithmeticException {
        requireWriter();
        if (isPrepared || prepareAll()) {
            renamePrepared();
        }
        return generation;
    }

    public void rollback() throws IllegalStateException {
        requireWriter();
        forgetWriter();
        dropUnneededFiles();
    }

    public int close() throws IllegalStateException, ArithmeticException {
        requireWriter();
        requireNothingPrepared();
        for (int left = running; left > 0; left--) {
            endMerge(0, true);
        }
        if (prepareAll()) {
            renamePrepared();
        }
        forgetWriter();
        dropUnneededFiles();
        return generation;
    }

    public void power(int n) throws IllegalArgumentException {
        requireRange(n, POWER_STAYS, MOST_ACTIONS_LEFT);
        actionsLeft = n;
    }

    public void crash() {
        losePower();
    }

    public void harm(int f, int n)
            throws IllegalArgumentException, IllegalStateException, NoSuchElementException {
        if (f < 0 || n < 0) {
            throw new IllegalArgumentException("a number is out of range");
        }
        if (writerOpen || openReaders() > 0) {
            throw new IllegalStateException("a writer or a reader is open");
        }
        LedgerFile file = directory.find(f);
        if (file == null) {
            throw new NoSuchElementException("no such file");
        }
        if (file.harmed) {
            throw new IllegalStateException("the file was harmed");
        }
        file.harmed = true;
    }

    public int reader(int from)
            throws IllegalArgumentException, IllegalStateException, NoSuchElementException,
            UnsupportedOperationException, IndexOutOfBoundsException, ArithmeticException {
        requireRange(from, 0, 1);
        if (from == 1) {
            requireWriter();
        }
        Reader free = closedReader();
        if (free == null) {
            throw new IndexOutOfBoundsException("no more readers at once");
        }
        if (from == 1) {
            flushBuffer();
            return openReader(free, writer);
        }
        if (generation == 0) {
            throw new NoSuchElementException("there is no commit");
        }
        if (commitIsCorrupt()) {
            throw new UnsupportedOperationException("the commit is corrupt");
        }
        return openReader(free, theCommit);
    }

    public void release(int r) throws NoSuchElementException {
        requireReader(r).isOpen = false;
        dropUnneededFiles();
    }

    public int value(int r, int key) throws NoSuchElementException {
        View view = requireReader(r).view;
        for (int e = entries.added - 1; e >= 0; e--) {
            if (view.live[e] && entries.keys[e] == key) {
                return entries.values[e];
            }
        }
        throw new NoSuchElementException("no live entry has that key");
    }

    public int many(int r, int key) throws NoSuchElementException {
        View view = requireReader(r).view;
        int found = 0;
        for (int e = 0; e < entries.added; e++) {
            if (view.live[e] && entries.keys[e] == key) {
                found++;
            }
        }
        return found;
    }

    public int serial(int r, int i) throws NoSuchElementException {
        View view = requireReader(r).view;
        int before = 0;
        for (int e = 0; e < entries.added; e++) {
            if (view.live[e]) {
                if (before == i) {
                    return entries.serials[e];
                }
                before++;
            }
        }
        throw new NoSuchElementException("no such live entry");
    }

    public int seen(int r, int what) throws IllegalArgumentException, NoSuchElementException {
        requireRange(what, 0, 2);
        View view = requireReader(r).view;
        switch (what) {
            case 0:
                return view.liveBetween(0, entries.added);
            case 1:
                return view.entriesInSegments();
            default:
                return view.size;
        }
    }

    public int segment(int i, int what)
            throws IllegalArgumentException, IllegalStateException, NoSuchElementException {
        requireRange(what, 0, 4);
        requireWriter();
        if (i < 0 || i >= writer.size) {
            throw new NoSuchElementException("no such segment");
        }
        LedgerFile segment = writer.segments[i];
        switch (what) {
            case 0:
                return segment.tells;
            case 1:
                return segment.tells - writer.liveIn(segment);
            case 2:
                return levelOf(segment);
            case 3:
                return mergeOf(segment);
            default:
                return entries.serials[segment.start];
        }
    }

    public int count(int what) {
        switch (what) {
            case 0:
                return actions;
            case 1:
                return directory.there.size();
            case 2:
                return openReaders();
            case 3:
                return generation;
            case 4:
                return writerOpen ? 1 : 0;
            default:
                return countOfWriter(what);
        }
    }

    private int countOfWriter(int what) {
        if (what < 5 || what > 11) {
            return -1;
        }
        if (!writerOpen) {
            return 0;
        }
        int live = writer.liveBetween(0, entries.added);
        switch (what) {
            case 5:
                return buffered();
            case 6:
                return writer.size;
            case 7:
                return live;
            case 8:
                return writer.entriesInSegments() + buffered() - live;
            case 9:
                return running;
            case 10:
                return writer.latestSerial;
            default:
                return isPrepared ? 1 : 0;
        }
    }

    private static void requireRange(int number, int least, int most) {
        if (number < least || number > most) {
            throw new IllegalArgumentException("a number is out of range");
        }
    }

    private void requireWriter() {
        if (!writerOpen) {
            throw new IllegalStateException("the writer is not open");
        }
    }

    private void requireNothingPrepared() {
        if (isPrepared) {
            throw new IllegalStateException("something is prepared");
        }
    }

    private Reader requireReader(int number) {
        for (int i = 0; i < MOST_READERS; i++) {
            if (readers[i].isOpen && readers[i].number == number) {
                return readers[i];
            }
        }
        throw new NoSuchElementException("no such reader is open");
    }

    /** Every write, sync and rename passes here first, so that none is done without power. */
    private void act() {
        if (actionsLeft == 0) {
            losePower();
            throw new ArithmeticException("power is lost");
        }
        if (actionsLeft > 0) {
            actionsLeft--;
        }
        actions++;
    }

    private void losePower() {
        actionsLeft = POWER_STAYS;
        forgetWriter();
        for (int i = 0; i < MOST_READERS; i++) {
            readers[i].isOpen = false;
        }
        directory.needSynced();
        directory.dropUnneeded();
        directory.keepsSynced = true;
    }

    private void forgetWriter() {
        writerOpen = false;
        isPrepared = false;
        running = 0;
    }

    private int buffered() {
        return entries.added - bufferStart;
    }

    private void addEntry(int key, int value) {
        if (entries.added < MOST_ENTRIES) {
            writer.latestSerial++;
            writer.live[entries.added] = true;
            entries.append(key, value, writer.latestSerial);
        }
    }

    private void flushBuffer() {
        if (writer.liveBetween(bufferStart, entries.added) > 0) {
            act();
            LedgerFile segment = directory.newFile(buffered());
            segment.start = bufferStart;
            segment.end = entries.added;
            writer.append(segment);
        }
        bufferStart = entries.added;
    }

    private void dropDeadSegments() {
        int kept = 0;
        for (int i = 0; i < writer.size; i++) {
            LedgerFile segment = writer.segments[i];
            if (writer.liveIn(segment) > 0 || mergeOf(segment) != 0) {
                writer.put(kept, segment, writer.lists[i]);
                kept++;
            }
        }
        writer.size = kept;
    }

    private int levelOf(LedgerFile segment) {
        int live = writer.liveIn(segment);
        int level = 0;
        for (int least = factor; least <= live && level < HIGHEST_LEVEL; least *= factor) {
            level++;
        }
        return level;
    }

    private int mergeOf(LedgerFile segment) {
        for (int i = 0; i < running; i++) {
            if (merges[i].covers(segment)) {
                return merges[i].number;
            }
        }
        return 0;
    }

    private int placeOfMerge(int number) {
        for (int i = 0; i < running; i++) {
            if (merges[i].number == number) {
                return i;
            }
        }
        return -1;
    }

    private boolean allCanBeMerged() {
        if (running > 0 || writer.size == 0) {
            return false;
        }
        LedgerFile first = writer.segments[0];
        return writer.size > 1 || writer.liveIn(first) < first.tells;
    }

    private int firstByPolicy() {
        for (int level = 0; level <= HIGHEST_LEVEL; level++) {
            int fitting = 0;
            for (int i = 0; i < writer.size; i++) {
                LedgerFile segment = writer.segments[i];
                boolean fits = mergeOf(segment) == 0 && levelOf(segment) <= level;
                fitting = fits ? fitting + 1 : 0;
                if (fitting == factor) {
                    return i - factor + 1;
                }
            }
        }
        return -1;
    }

    private int beginMerge(int first, int howMany) {
        int start = writer.segments[first].start;
        int end = writer.segments[first + howMany - 1].end;
        act();
        LedgerFile fresh = directory.newFile(writer.liveBetween(start, end));
        fresh.start = writer.firstLive(start, end);
        fresh.end = end;
        mergesBegun++;
        merges[running].begin(mergesBegun, start, end, fresh);
        running++;
        return mergesBegun;
    }

    private void endMerge(int at, boolean keep) {
        Merge ended = merges[at];
        if (keep) {
            writer.replaceMerged(ended);
        }
        for (int i = at; i < running - 1; i++) {
            merges[i] = merges[i + 1];
        }
        merges[running - 1] = ended;
        running--;
        dropDeadSegments();
        dropUnneededFiles();
    }

    /** Answers whether there was something to commit. */
    private boolean prepareAll() {
        flushBuffer();
        if (generation > 0 && writer.isSameAs(theCommit)) {
            return false;
        }
        writeLists();
        syncSegments();
        act();
        LedgerFile own = directory.newFile(0);
        syncIfNeeded(own);
        prepared.copyFrom(writer);
        prepared.own = own;
        isPrepared = true;
        return true;
    }

    private void writeLists() {
        for (int i = 0; i < writer.size; i++) {
            if (!writer.listIsRight(i)) {
                act();
                writer.lists[i] = directory.newFile(writer.liveIn(writer.segments[i]));
            }
        }
    }

    private void syncSegments() {
        for (int i = 0; i < writer.size; i++) {
            syncIfNeeded(writer.segments[i]);
            syncIfNeeded(writer.lists[i]);
        }
    }

    private void syncIfNeeded(LedgerFile file) {
        if (file != null && !file.synced) {
            act();
            file.synced = true;
        }
    }

    private void renamePrepared() {
        act();
        View before = theCommit;
        theCommit = prepared;
        prepared = before;
        isPrepared = false;
        generation++;
        dropUnneededFiles();
    }

    private boolean commitIsCorrupt() {
        return generation > 0 && theCommit.hasHarmedFile();
    }

    private int openReaders() {
        int open = 0;
        for (int i = 0; i < MOST_READERS; i++) {
            if (readers[i].isOpen) {
                open++;
            }
        }
        return open;
    }

    private Reader closedReader() {
        for (int i = 0; i < MOST_READERS; i++) {
            if (!readers[i].isOpen) {
                return readers[i];
            }
        }
        return null;
    }

    private int openReader(Reader opened, View view) {
        readersOpened++;
        opened.number = readersOpened;
        opened.isOpen = true;
        opened.view.copyFrom(view);
        return readersOpened;
    }

    private void dropUnneededFiles() {
        if (directory.keepsSynced) {
            return;
        }
        directory.needNone();
        if (generation > 0) {
            theCommit.needSegments();
            theCommit.needListsAndOwn();
        }
        if (isPrepared) {
            prepared.needSegments();
            prepared.needListsAndOwn();
        }
        if (writerOpen) {
            writer.needSegments();
            writer.needListsAndOwn();
        }
        for (int i = 0; i < running; i++) {
            need(merges[i].fresh);
        }
        for (int i = 0; i < MOST_READERS; i++) {
            if (readers[i].isOpen) {
                readers[i].view.needSegments();
            }
        }
        directory.dropUnneeded();
    }

    private static void need(LedgerFile file) {
        if (file != null) {
            file.needed = true;
        }
    }

    /** All entries ever added, by whatever writer: none leaves, so that its place is its name. */
    private static final class Entries {
        final int[] keys = new int[MOST_ENTRIES];
        final int[] values = new int[MOST_ENTRIES];
        final int[] serials = new int[MOST_ENTRIES];
        int added;

        void append(int key, int value, int serial) {
            keys[added] = key;
            values[added] = value;
            serials[added] = serial;
            added++;
        }
    }

    /**
     * A file of the directory. A segment is known by its file and has the stretch of entries from
     * start to before end; it tells them all, but for those that a merge left out: these are live
     * in no view that has the segment.
     */
    private static final class LedgerFile {
        int number;
        boolean synced;
        boolean harmed;
        boolean needed;
        /** How many entries a segment has; how many are live by a list. */
        int tells;
        int start;
        int end;
    }

    /** The files that are there, by number, and those that are gone, to be used again. */
    private static final class Directory {
        final ArrayList<LedgerFile> there = new ArrayList<>();
        final ArrayList<LedgerFile> gone = new ArrayList<>();
        int written;
        /** After power was lost nobody looks for unneeded files before a writer is opened. */
        boolean keepsSynced;

        LedgerFile newFile(int tells) {
            LedgerFile file = gone.isEmpty() ? new LedgerFile() : gone.remove(gone.size() - 1);
            file.number = written;
            file.synced = false;
            file.harmed = false;
            file.needed = true;
            file.tells = tells;
            file.start = 0;
            file.end = 0;
            written++;
            there.add(file);
            return file;
        }

        LedgerFile find(int number) {
            for (int i = 0; i < there.size(); i++) {
                if (there.get(i).number == number) {
                    return there.get(i);
                }
            }
            return null;
        }

        void needNone() {
            for (int i = 0; i < there.size(); i++) {
                there.get(i).needed = false;
            }
        }

        void needSynced() {
            for (int i = 0; i < there.size(); i++) {
                there.get(i).needed = there.get(i).synced;
            }
        }

        void dropUnneeded() {
            int kept = 0;
            for (int i = 0; i < there.size(); i++) {
                LedgerFile file = there.get(i);
                if (file.needed) {
                    there.set(kept, file);
                    kept++;
                } else {
                    gone.add(file);
                }
            }
            for (int i = there.size() - 1; i >= kept; i--) {
                there.remove(i);
            }
        }
    }

    /** Segments in order and what is live: the writer's, a commit's or a reader's. */
    private static final class View {
        final LedgerFile[] segments = new LedgerFile[MOST_ENTRIES];
        /** Beside each segment its latest list, null where all of its entries are live. */
        final LedgerFile[] lists = new LedgerFile[MOST_ENTRIES];
        final boolean[] live = new boolean[MOST_ENTRIES];
        /** The commit's file; the writer and readers have none. */
        LedgerFile own;
        int size;
        int latestSerial;

        void becomeEmpty() {
            size = 0;
            latestSerial = 0;
            for (int e = 0; e < MOST_ENTRIES; e++) {
                live[e] = false;
            }
        }

        void copyFrom(View other) {
            size = other.size;
            latestSerial = other.latestSerial;
            for (int i = 0; i < size; i++) {
                segments[i] = other.segments[i];
                lists[i] = other.lists[i];
            }
            for (int e = 0; e < MOST_ENTRIES; e++) {
                live[e] = other.live[e];
            }
        }

        boolean isSameAs(View other) {
            if (size != other.size || latestSerial != other.latestSerial) {
                return false;
            }
            for (int i = 0; i < size; i++) {
                if (segments[i] != other.segments[i]) {
                    return false;
                }
            }
            for (int e = 0; e < MOST_ENTRIES; e++) {
                if (live[e] != other.live[e]) {
                    return false;
                }
            }
            return true;
        }

        void put(int at, LedgerFile segment, LedgerFile list) {
            segments[at] = segment;
            lists[at] = list;
        }

        void append(LedgerFile segment) {
            if (size < MOST_ENTRIES) {
                put(size, segment, null);
                size++;
            }
        }

        void replaceMerged(Merge merge) {
            int kept = 0;
            boolean replaced = false;
            for (int i = 0; i < size; i++) {
                if (!merge.covers(segments[i])) {
                    put(kept, segments[i], lists[i]);
                    kept++;
                } else if (!replaced) {
                    put(kept, merge.fresh, null);
                    kept++;
                    replaced = true;
                }
            }
            size = kept;
        }

        int liveBetween(int start, int end) {
            int found = 0;
            for (int e = start; e < end; e++) {
                if (live[e]) {
                    found++;
                }
            }
            return found;
        }

        int firstLive(int start, int end) {
            for (int e = start; e < end; e++) {
                if (live[e]) {
                    return e;
                }
            }
            return start;
        }

        int liveIn(LedgerFile segment) {
            return liveBetween(segment.start, segment.end);
        }

        /** What is not live never comes back, so that as many live means the same ones live. */
        boolean listIsRight(int i) {
            LedgerFile told = lists[i] != null ? lists[i] : segments[i];
            return told.tells == liveIn(segments[i]);
        }

        int entriesInSegments() {
            int all = 0;
            for (int i = 0; i < size; i++) {
                all += segments[i].tells;
            }
            return all;
        }

        boolean hasHarmedFile() {
            for (int i = 0; i < size; i++) {
                if (segments[i].harmed || (lists[i] != null && lists[i].harmed)) {
                    return true;
                }
            }
            return own != null && own.harmed;
        }

        void needSegments() {
            for (int i = 0; i < size; i++) {
                need(segments[i]);
            }
        }

        void needListsAndOwn() {
            for (int i = 0; i < size; i++) {
                need(lists[i]);
            }
            need(own);
        }
    }

    /** A running merge of the segments whose entries stand from start to before end. */
    private static final class Merge {
        int number;
        int start;
        int end;
        LedgerFile fresh;

        void begin(int number, int start, int end, LedgerFile fresh) {
            this.number = number;
            this.start = start;
            this.end = end;
            this.fresh = fresh;
        }

        boolean covers(LedgerFile segment) {
            return start <= segment.start && segment.start < end;
        }
    }

    /** A reader; its view keeps the lists too, but needs only the segments' files. */
    private static final class Reader {
        final View view = new View();
        int number;
        boolean isOpen;
    }
}
