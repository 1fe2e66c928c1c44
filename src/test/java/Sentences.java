import java.io.IOException;
import java.nio.file.Files;
import java.nio.file.Path;
import java.util.Set;

/**
 * Tests that stand under a sentence of the document. A run is a text, one call a row, on a new object:
 *
 * <pre>
 * open(0) = 0             the call and its answer
 * add(1, 1, 0) = bad      a refused call: bad, state, missing, full, corrupt or power
 * power(3)                a call that is not refused, whatever it answers
 * 40 * add(0, 0, 100)     a call that is made 40 times
 * # ...                   a remark
 * </pre>
 */
final class Sentences {

    /** Nothing is promised about an object after that. */
    private static final int MOST_CALLS = 512;
    private static final Path DOCUMENT = Path.of("../shared/DOC.md");
    private static final Set<String> REFUSALS =
            Set.of("bad", "state", "missing", "full", "corrupt", "power");

    private final Check check = new Check();
    private final String document;
    private CommitLedger ledger;
    private int calls;

    Sentences() throws IOException {
        document = Files.exists(DOCUMENT) ? oneLine(Files.readString(DOCUMENT)) : "";
    }

    private static String oneLine(String text) {
        return text.replaceAll("\\s+", " ").strip();
    }

    /** The runs behind this stand under the quote, which has to be in the document. */
    void sentence(String quote) {
        check.part(quote);
        if (!document.isEmpty()) {
            check.holds(document.contains(oneLine(quote)), "is not in the document");
        }
    }

    void run(String rows) {
        ledger = new CommitLedger();
        calls = 0;
        for (String row : rows.split("\n")) {
            if (!row.isBlank() && !row.strip().startsWith("#")) {
                make(row.strip());
            }
        }
        check.holds(calls <= MOST_CALLS, "a run of " + calls + " calls");
    }

    private void make(String row) {
        int star = row.indexOf(" * ");
        int times = star < 0 ? 1 : Integer.parseInt(row.substring(0, star));
        String[] parts = row.substring(star < 0 ? 0 : star + 3).split(" = ");
        for (int i = 0; i < times; i++) {
            calls++;
            String got = Spoken.outcome(ledger, parts[0]);
            if (parts.length > 1) {
                check.holds(got.equals(parts[1]), told(parts[0], got) + ", due is " + parts[1]);
            } else {
                boolean refused = REFUSALS.contains(got) || got.contains("Exception");
                check.holds(!refused, told(parts[0], got) + ", due is no refusal");
            }
        }
    }

    private String told(String call, String got) {
        return "call " + calls + ", " + call + " answered " + got;
    }

    void end() {
        check.end();
    }
}
