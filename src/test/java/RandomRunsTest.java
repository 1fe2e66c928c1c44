import java.util.ArrayList;
import java.util.List;
import java.util.Random;

/**
 * Runs of 512 calls, the same each time, against the plain ledger; all that can be asked is asked behind
 * each of them, as the program does not count its calls. Every eighth run is a wide one: its numbers stand
 * at the bounds that the document names, and it comes to the 4096 entries.
 */
public final class RandomRunsTest {

    private static final int RUNS = 300;
    private static final int CALLS = 512;

    private static final int[] WIDE_ADDS = {-1, 0, 1, 2, 40, 99, 100, 100, 100, 101};
    private static final int[] WIDE_BUFFERS = {0, 8, 16, 50, 100, 100, 1000, 10000, 10001};
    private static final int[] WIDE_FACTORS = {1, 2, 2, 3, 4, 63, 64, 65};

    private static final Check CHECK = new Check();

    private CommitLedger program;
    private PlainLedger plain;
    private final Random random;
    private final List<String> told = new ArrayList<>();
    private final int keys;
    private final boolean wide;
    private int latestReader;
    private int latestMerge;
    private boolean differs;

    private RandomRunsTest(int seed) {
        random = new Random(seed);
        keys = 1 + random.nextInt(12);
        wide = seed % 8 == 0;
        program = new CommitLedger();
        plain = new PlainLedger();
    }

    public static void main(String[] args) {
        for (int seed = 1; seed <= RUNS; seed++) {
            CHECK.part("run " + seed);
            RandomRunsTest run = new RandomRunsTest(seed);
            run.go();
            CHECK.holds(!run.differs, String.join("\n  ", run.told));
        }
        CHECK.end();
    }

    private void go() {
        for (int call = 0; call < CALLS && !differs; call++) {
            if (wide && random.nextInt(3) == 0) {
                stepTowardsFull();
            } else {
                step();
            }
            lookAtWriter();
            lookAtReaders();
        }
    }

    private void step() {
        int key = anyKey();
        switch (random.nextInt(32)) {
            case 0: case 1: case 2: {
                int mode = random.nextInt(20) - 1;
                int asked = mode > 2 ? 0 : mode;
                same("open(" + asked + ")", () -> program.open(asked), () -> plain.open(asked));
                break;
            }
            case 3: {
                int buffer = wide ? oneOf(WIDE_BUFFERS) : random.nextInt(8);
                int factor = wide ? oneOf(WIDE_FACTORS) : 1 + random.nextInt(5);
                same("limits(" + buffer + ", " + factor + ")",
                        () -> nothing(() -> program.limits(buffer, factor)),
                        () -> nothing(() -> plain.limits(buffer, factor)));
                break;
            }
            case 4: case 5: case 6: case 7: case 8:
                stepOfAdding(key);
                break;
            case 9: case 10: case 11:
                same("erase(" + key + ")", () -> program.erase(key), () -> plain.erase(key));
                break;
            case 12:
                same("flush()", () -> program.flush(), () -> plain.flush());
                break;
            case 13: case 14: case 15: case 16: {
                int how = random.nextInt(12) == 0 ? -1 : random.nextInt(4) / 2;
                latestMerge = Math.max(latestMerge,
                        same("merge(" + how + ")", () -> program.merge(how), () -> plain.merge(how)));
                break;
            }
            case 17: case 18: case 19: {
                int m = latestMerge - random.nextInt(4) + random.nextInt(2);
                boolean keep = random.nextInt(4) != 0;
                same("finish(" + m + ", " + keep + ")",
                        () -> program.finish(m, keep), () -> plain.finish(m, keep));
                break;
            }
            case 20: case 21:
                same("prepare()", () -> program.prepare(), () -> plain.prepare());
                break;
            case 22: case 23: case 24:
                same("commit()", () -> program.commit(), () -> plain.commit());
                break;
            case 25:
                same("rollback()", () -> nothing(program::rollback), () -> nothing(plain::rollback));
                break;
            case 26:
                same("close()", () -> program.close(), () -> plain.close());
                break;
            default:
                stepOfDirectoryAndReaders();
                break;
        }
    }

    private void stepOfAdding(int key) {
        int n = wide ? oneOf(WIDE_ADDS) : random.nextInt(random.nextInt(4) == 0 ? 30 : 4);
        int value = random.nextInt();
        same("add(" + key + ", " + value + ", " + n + ")",
                () -> program.add(key, value, n), () -> plain.add(key, value, n));
    }

    /** Without these a run has its writer open too seldom to add as many as there may be. */
    private void stepTowardsFull() {
        if (plain.count(4) == 1) {
            stepOfAdding(anyKey());
        } else {
            int mode = random.nextInt(2);
            same("open(" + mode + ")", () -> program.open(mode), () -> plain.open(mode));
        }
    }

    private int anyKey() {
        int key = random.nextInt(keys);
        return wide ? Integer.MAX_VALUE - 20 + key * 9 : key;
    }

    private int oneOf(int[] numbers) {
        return numbers[random.nextInt(numbers.length)];
    }

    private void stepOfDirectoryAndReaders() {
        switch (random.nextInt(7)) {
            case 0: {
                int n = random.nextInt(14) - 2;
                same("power(" + n + ")",
                        () -> nothing(() -> program.power(n)), () -> nothing(() -> plain.power(n)));
                break;
            }
            case 1:
                if (random.nextInt(3) == 0) {
                    same("crash()", () -> nothing(program::crash), () -> nothing(plain::crash));
                }
                break;
            case 2: {
                int f = random.nextInt(200) - 2;
                int n = random.nextInt(100) - 2;
                same("harm(" + f + ", " + n + ")",
                        () -> nothing(() -> program.harm(f, n)), () -> nothing(() -> plain.harm(f, n)));
                break;
            }
            case 3: case 4: {
                int from = random.nextInt(12) == 0 ? 2 : random.nextInt(2);
                latestReader = Math.max(latestReader, same("reader(" + from + ")",
                        () -> program.reader(from), () -> plain.reader(from)));
                break;
            }
            default: {
                int r = latestReader - random.nextInt(6) + random.nextInt(2);
                same("release(" + r + ")",
                        () -> nothing(() -> program.release(r)), () -> nothing(() -> plain.release(r)));
                break;
            }
        }
    }

    private void lookAtWriter() {
        for (int w = -1; w <= 12; w++) {
            int what = w;
            same("count(" + what + ")", () -> program.count(what), () -> plain.count(what));
        }
        int segments = plain.count(6);
        // The plain ledger is slow where there are many.
        int stride = 1 + segments / 16;
        for (int s = -1; s <= segments; s += stride) {
            int i = s;
            for (int w = -1; w <= 5; w++) {
                int what = w;
                same("segment(" + i + ", " + what + ")",
                        () -> program.segment(i, what), () -> plain.segment(i, what));
            }
        }
    }

    private void lookAtReaders() {
        int r = latestReader - random.nextInt(5) + random.nextInt(2);
        int key = anyKey() + random.nextInt(5) - 1;
        same("value(" + r + ", " + key + ")", () -> program.value(r, key), () -> plain.value(r, key));
        same("many(" + r + ", " + key + ")", () -> program.many(r, key), () -> plain.many(r, key));
        int i = random.nextInt(wide ? 5000 : 30) - 1;
        same("serial(" + r + ", " + i + ")", () -> program.serial(r, i), () -> plain.serial(r, i));
        for (int w = -1; w <= 3; w++) {
            int what = w;
            same("seen(" + r + ", " + what + ")", () -> program.seen(r, what), () -> plain.seen(r, what));
        }
    }

    /** Answers what the plain ledger answered, 0 if it refused. */
    private int same(String call, Check.Call ofProgram, Check.Call ofPlain) {
        if (differs) {
            return 0;
        }
        String got = outcome(ofProgram);
        String due = outcome(ofPlain);
        boolean isQuestion = call.startsWith("count") || call.startsWith("segment")
                || call.startsWith("value") || call.startsWith("many")
                || call.startsWith("serial") || call.startsWith("seen");
        if (!got.equals(due)) {
            differs = true;
            told.add(call + " answered " + got + ", due is " + due);
        } else if (!isQuestion) {
            told.add(call + " " + got);
        }
        return due.startsWith("throws") ? 0 : Integer.parseInt(due);
    }

    private static String outcome(Check.Call call) {
        try {
            return Long.toString(call.answer());
        } catch (RuntimeException e) {
            return "throws " + e.getClass().getSimpleName();
        }
    }

    private static long nothing(Check.Deed deed) {
        deed.run();
        return 0;
    }
}
