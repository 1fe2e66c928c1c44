import java.util.ArrayList;
import java.util.HashMap;
import java.util.HashSet;
import java.util.LinkedHashMap;
import java.util.List;
import java.util.Map;
import java.util.NoSuchElementException;
import java.util.Set;
import java.util.TreeMap;

/**
 * The document's words again, as plainly as Java's library lets one write them: entries are objects,
 * segments are lists of them, and every view has its own set of what is live. It shares no idea with
 * the program but the document, so that a wrong short cut there shows as a difference.
 */
final class PlainLedger {

    private static final class Entry {
        int key;
        int value;
        int serial;
    }

    private static final class Segment {
        final List<Entry> entries = new ArrayList<>();
        int file;
    }

    private static final class Stored {
        boolean synced;
        boolean harmed;
        Set<Entry> told;
    }

    private static final class State {
        final List<Segment> segments = new ArrayList<>();
        final Set<Entry> live = new HashSet<>();
        final Map<Segment, Integer> lists = new HashMap<>();
        int serial;
        int commitFile = -1;

        State copy() {
            State other = new State();
            other.segments.addAll(segments);
            other.live.addAll(live);
            other.lists.putAll(lists);
            other.serial = serial;
            return other;
        }

        Set<Entry> liveOf(Segment segment) {
            Set<Entry> found = new HashSet<>(segment.entries);
            found.retainAll(live);
            return found;
        }

        Set<Integer> segmentFiles() {
            Set<Integer> files = new HashSet<>();
            for (Segment segment : segments) {
                files.add(segment.file);
            }
            return files;
        }

        Set<Integer> allFiles() {
            Set<Integer> files = segmentFiles();
            for (Segment segment : segments) {
                if (lists.containsKey(segment)) {
                    files.add(lists.get(segment));
                }
            }
            if (commitFile >= 0) {
                files.add(commitFile);
            }
            return files;
        }

        List<Entry> liveInOrder() {
            List<Entry> found = new ArrayList<>();
            for (Segment segment : segments) {
                for (Entry entry : segment.entries) {
                    if (live.contains(entry)) {
                        found.add(entry);
                    }
                }
            }
            return found;
        }
    }

    private static final class Joining {
        final List<Segment> old = new ArrayList<>();
        final Segment fresh = new Segment();
    }

    private final TreeMap<Integer, Stored> files = new TreeMap<>();
    private final LinkedHashMap<Integer, Joining> merges = new LinkedHashMap<>();
    private final TreeMap<Integer, State> readers = new TreeMap<>();
    private final List<Entry> buffer = new ArrayList<>();
    private State writer;
    private State theCommit;
    private State prepared;
    private int generation;
    private int written;
    private int actions;
    private int left = -1;
    private int bufferLimit = 16;
    private int factor = 4;
    private int ever;
    private int mergeNumbers;
    private int readerNumbers;
    private boolean afterPower;

    int open(int mode) {
        bad(mode < 0 || mode > 1);
        state(writer != null);
        if (mode == 0 && corrupt()) {
            throw new UnsupportedOperationException();
        }
        writer = mode == 0 && theCommit != null ? theCommit.copy() : new State();
        buffer.clear();
        afterPower = false;
        tidy();
        return writer.segments.size();
    }

    void limits(int newBuffer, int newFactor) {
        bad(newBuffer < 1 || newBuffer > 10000 || newFactor < 2 || newFactor > 64);
        bufferLimit = newBuffer;
        factor = newFactor;
    }

    int add(int key, int value, int n) {
        bad(n < 1 || n > 100);
        state(writer == null);
        full(ever + n > 4096);
        for (int i = 0; i < n; i++) {
            Entry entry = new Entry();
            entry.key = key + i;
            entry.value = value;
            entry.serial = ++writer.serial;
            ever++;
            buffer.add(entry);
            writer.live.add(entry);
            if (buffer.size() >= bufferLimit) {
                flushing();
            }
        }
        return writer.serial;
    }

    int erase(int key) {
        state(writer == null);
        int before = writer.live.size();
        writer.live.removeIf(entry -> entry.key == key);
        int erased = before - writer.live.size();
        tidy();
        return erased;
    }

    int flush() {
        state(writer == null);
        flushing();
        return writer.segments.size();
    }

    int merge(int how) {
        bad(how < 0 || how > 1);
        state(writer == null);
        full(merges.size() >= 4);
        List<Segment> chosen = how == 0 ? byPolicy() : all();
        missing(chosen == null);
        int file = write(null);
        Joining joining = new Joining();
        joining.old.addAll(chosen);
        joining.fresh.file = file;
        for (Segment segment : chosen) {
            for (Entry entry : segment.entries) {
                if (writer.live.contains(entry)) {
                    joining.fresh.entries.add(entry);
                }
            }
        }
        merges.put(++mergeNumbers, joining);
        return mergeNumbers;
    }

    int finish(int m, boolean keep) {
        state(writer == null);
        missing(!merges.containsKey(m));
        end(m, keep);
        return writer.segments.size();
    }

    int prepare() {
        state(writer == null || prepared != null);
        preparing();
        return prepared != null ? generation + 1 : 0;
    }

    int commit() {
        state(writer == null);
        committing();
        return generation;
    }

    void rollback() {
        state(writer == null);
        loseWriter();
        tidy();
    }

    int close() {
        state(writer == null || prepared != null);
        for (int m : new ArrayList<>(merges.keySet())) {
            end(m, true);
        }
        committing();
        loseWriter();
        tidy();
        return generation;
    }

    void power(int n) {
        bad(n < -1 || n > 1000000);
        left = n;
    }

    void crash() {
        left = -1;
        loseWriter();
        readers.clear();
        files.values().removeIf(file -> !file.synced);
        afterPower = true;
    }

    void harm(int f, int n) {
        bad(f < 0 || n < 0);
        state(writer != null || !readers.isEmpty());
        missing(!files.containsKey(f));
        state(files.get(f).harmed);
        files.get(f).harmed = true;
    }

    int reader(int from) {
        bad(from < 0 || from > 1);
        state(from == 1 && writer == null);
        full(readers.size() >= 4);
        if (from == 1) {
            flushing();
        } else {
            missing(theCommit == null);
            if (corrupt()) {
                throw new UnsupportedOperationException();
            }
        }
        readers.put(++readerNumbers, (from == 1 ? writer : theCommit).copy());
        return readerNumbers;
    }

    void release(int r) {
        readerOf(r);
        readers.remove(r);
        tidy();
    }

    int value(int r, int key) {
        List<Entry> live = readerOf(r).liveInOrder();
        live.removeIf(entry -> entry.key != key);
        missing(live.isEmpty());
        return live.get(live.size() - 1).value;
    }

    int many(int r, int key) {
        List<Entry> live = readerOf(r).liveInOrder();
        live.removeIf(entry -> entry.key != key);
        return live.size();
    }

    int serial(int r, int i) {
        List<Entry> live = readerOf(r).liveInOrder();
        missing(i < 0 || i >= live.size());
        return live.get(i).serial;
    }

    int seen(int r, int what) {
        bad(what < 0 || what > 2);
        State reader = readerOf(r);
        switch (what) {
            case 0:
                return reader.liveInOrder().size();
            case 1:
                return sizes(reader);
            default:
                return reader.segments.size();
        }
    }

    int segment(int i, int what) {
        bad(what < 0 || what > 4);
        state(writer == null);
        missing(i < 0 || i >= writer.segments.size());
        Segment segment = writer.segments.get(i);
        switch (what) {
            case 0:
                return segment.entries.size();
            case 1:
                return segment.entries.size() - writer.liveOf(segment).size();
            case 2:
                return level(segment);
            case 3:
                return mergeWith(segment);
            default:
                return segment.entries.get(0).serial;
        }
    }

    int count(int what) {
        switch (what) {
            case 0:
                return actions;
            case 1:
                return files.size();
            case 2:
                return readers.size();
            case 3:
                return generation;
            case 4:
                return writer != null ? 1 : 0;
            case 5:
                return writer == null ? 0 : buffer.size();
            case 6:
                return writer == null ? 0 : writer.segments.size();
            case 7:
                return writer == null ? 0 : writer.live.size();
            case 8:
                return writer == null ? 0 : sizes(writer) + buffer.size() - writer.live.size();
            case 9:
                return writer == null ? 0 : merges.size();
            case 10:
                return writer == null ? 0 : writer.serial;
            case 11:
                return prepared != null ? 1 : 0;
            default:
                return -1;
        }
    }

    private static int sizes(State state) {
        int all = 0;
        for (Segment segment : state.segments) {
            all += segment.entries.size();
        }
        return all;
    }

    private State readerOf(int r) {
        missing(!readers.containsKey(r));
        return readers.get(r);
    }

    private boolean corrupt() {
        if (theCommit == null) {
            return false;
        }
        for (int file : theCommit.allFiles()) {
            if (files.get(file).harmed) {
                return true;
            }
        }
        return false;
    }

    private void action() {
        if (left == 0) {
            crash();
            throw new ArithmeticException();
        }
        if (left > 0) {
            left--;
        }
        actions++;
    }

    private int write(Set<Entry> told) {
        action();
        Stored file = new Stored();
        file.told = told;
        files.put(written, file);
        return written++;
    }

    private void sync(int file) {
        if (!files.get(file).synced) {
            action();
            files.get(file).synced = true;
        }
    }

    private void flushing() {
        boolean any = false;
        for (Entry entry : buffer) {
            any |= writer.live.contains(entry);
        }
        if (any) {
            Segment segment = new Segment();
            segment.file = write(null);
            segment.entries.addAll(buffer);
            writer.segments.add(segment);
        }
        buffer.clear();
    }

    private void end(int m, boolean keep) {
        Joining joining = merges.remove(m);
        if (keep) {
            int place = writer.segments.indexOf(joining.old.get(0));
            writer.segments.removeAll(joining.old);
            writer.segments.add(place, joining.fresh);
        }
        tidy();
    }

    private void preparing() {
        flushing();
        if (theCommit != null && theCommit.segments.equals(writer.segments)
                && theCommit.live.equals(writer.live) && theCommit.serial == writer.serial) {
            return;
        }
        for (Segment segment : writer.segments) {
            Set<Entry> live = writer.liveOf(segment);
            Integer list = writer.lists.get(segment);
            Set<Entry> told = list == null ? new HashSet<>(segment.entries) : files.get(list).told;
            if (!told.equals(live)) {
                writer.lists.put(segment, write(live));
            }
        }
        for (Segment segment : writer.segments) {
            sync(segment.file);
            if (writer.lists.containsKey(segment)) {
                sync(writer.lists.get(segment));
            }
        }
        int own = write(null);
        sync(own);
        prepared = writer.copy();
        prepared.commitFile = own;
    }

    private void committing() {
        if (prepared == null) {
            preparing();
            if (prepared == null) {
                return;
            }
        }
        action();
        theCommit = prepared;
        prepared = null;
        generation++;
        tidy();
    }

    private void loseWriter() {
        writer = null;
        prepared = null;
        merges.clear();
        buffer.clear();
    }

    /** What is without live entries is gone, and then every file that nothing needs. */
    private void tidy() {
        if (writer != null) {
            writer.segments.removeIf(s -> writer.liveOf(s).isEmpty() && mergeWith(s) == 0);
            writer.lists.keySet().retainAll(writer.segments);
        }
        if (afterPower) {
            return;
        }
        Set<Integer> needed = new HashSet<>();
        for (State state : new State[] {theCommit, prepared, writer}) {
            if (state != null) {
                needed.addAll(state.allFiles());
            }
        }
        for (Joining joining : merges.values()) {
            needed.add(joining.fresh.file);
        }
        for (State reader : readers.values()) {
            needed.addAll(reader.segmentFiles());
        }
        files.keySet().retainAll(needed);
    }

    private int mergeWith(Segment segment) {
        for (Map.Entry<Integer, Joining> merge : merges.entrySet()) {
            if (merge.getValue().old.contains(segment)) {
                return merge.getKey();
            }
        }
        return 0;
    }

    private int level(Segment segment) {
        int live = writer.liveOf(segment).size();
        int level = 0;
        while (Math.pow(factor, level + 1) <= live) {
            level++;
        }
        return level;
    }

    private List<Segment> all() {
        boolean free = merges.isEmpty();
        int size = writer.segments.size();
        boolean worth = size >= 2 || (size == 1 && writer.liveOf(writer.segments.get(0)).size()
                < writer.segments.get(0).entries.size());
        return free && worth ? writer.segments : null;
    }

    private List<Segment> byPolicy() {
        for (int level = 0; level <= 4096; level++) {
            for (int first = 0; first + factor <= writer.segments.size(); first++) {
                List<Segment> some = writer.segments.subList(first, first + factor);
                int highest = level;
                if (some.stream().allMatch(s -> mergeWith(s) == 0 && level(s) <= highest)) {
                    return some;
                }
            }
            int reached = level;
            if (writer.segments.stream().allMatch(s -> level(s) <= reached)) {
                return null;
            }
        }
        return null;
    }

    private static void bad(boolean is) {
        if (is) {
            throw new IllegalArgumentException();
        }
    }

    private static void state(boolean is) {
        if (is) {
            throw new IllegalStateException();
        }
    }

    private static void missing(boolean is) {
        if (is) {
            throw new NoSuchElementException();
        }
    }

    private static void full(boolean is) {
        if (is) {
            throw new IndexOutOfBoundsException();
        }
    }
}
