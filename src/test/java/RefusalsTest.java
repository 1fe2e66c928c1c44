import java.util.ArrayList;
import java.util.List;

/**
 * "A refused call changes nothing, but what is done before POWER is lost": in each of some situations
 * every call is made with numbers at, below and above their bounds. Its outcome is that of the plain
 * ledger, and if it was refused, all that can be asked and done behind it answers as if it had not been
 * made.
 */
public final class RefusalsTest {

    private static final Check CHECK = new Check();

    private static final String[] EDGES = {"MIN", "-2", "-1", "0", "1", "2", "3", "4", "5", "MAX"};

    private static final String[][] SITUATIONS = {
        {"a new object"},
        {"a writer without anything", "open(0)"},
        {"a buffer", "open(0)", "add(1, 10, 5)", "erase(2)"},
        {"one segment", "open(0)", "limits(3, 2)", "add(1, 10, 3)"},
        {"segments, merges, readers and a commit", "limits(2, 2)", "open(0)", "add(1, 10, 6)", "commit()",
            "reader(0)", "add(1, 20, 5)", "erase(2)", "merge(0)", "erase(1)", "reader(1)", "merge(0)",
            "add(3, 30, 1)", "power(3)"},
        {"four merges", "limits(1, 2)", "open(0)", "add(1, 10, 8)", "merge(0)", "merge(0)", "merge(0)",
            "merge(0)", "erase(3)", "add(1, 11, 3)"},
        {"four readers and a buffer", "open(0)", "add(1, 10, 3)", "reader(1)", "reader(1)", "add(2, 20, 1)",
            "reader(1)", "reader(1)", "add(3, 30, 2)", "erase(1)", "power(0)"},
        {"four readers and a commit, no writer", "limits(2, 2)", "open(0)", "add(1, 10, 5)", "erase(1)",
            "commit()", "reader(0)", "reader(1)", "reader(1)", "reader(0)", "rollback()"},
        {"prepared, then changed", "limits(2, 2)", "open(0)", "add(1, 10, 4)", "commit()", "erase(1)",
            "prepare()", "erase(2)", "add(1, 20, 3)", "merge(0)"},
        {"prepared, no power left", "open(0)", "add(1, 10, 4)", "prepare()", "add(1, 11, 1)", "power(0)"},
        {"a commit", "open(0)", "add(1, 10, 20)", "erase(3)", "close()"},
        {"a corrupt commit", "open(0)", "add(1, 10, 3)", "erase(3)", "close()", "harm(1, 5)"},
        {"a corrupt commit, synced files, a writer", "open(0)", "add(1, 10, 3)", "commit()", "erase(1)",
            "prepare()", "crash()", "harm(0, 3)", "open(1)", "add(4, 40, 1)"},
        {"synced files that nobody needs", "open(0)", "add(1, 10, 3)", "commit()", "erase(1)", "prepare()",
            "crash()", "harm(2, 3)"},
        {"synced files and a corrupt commit", "open(0)", "add(1, 10, 3)", "commit()", "erase(1)",
            "prepare()", "crash()", "harm(0, 3)"},
        {"a reader after power was lost", "limits(1, 2)", "open(0)", "add(1, 10, 2)", "commit()",
            "merge(1)", "finish(1, true)", "prepare()", "crash()", "reader(0)", "power(1)"},
    };

    private static final String[] FULL_UP = {"4094 entries ever", "limits(100, 4)", "open(0)"};

    public static void main(String[] args) {
        List<String> calls = everyCall();
        for (String[] situation : SITUATIONS) {
            lookAt(situation, calls);
        }
        lookAt(fullUp(), calls);
        CHECK.end();
    }

    private static String[] fullUp() {
        List<String> rows = new ArrayList<>(List.of(FULL_UP));
        for (int i = 0; i < 40; i++) {
            rows.add("add(" + 100 * i + ", 0, 100)");
        }
        rows.add("add(7, 7, 94)");
        return rows.toArray(new String[0]);
    }

    private static List<String> everyCall() {
        List<String> calls = new ArrayList<>(List.of("flush()", "prepare()", "commit()", "rollback()",
                "close()", "crash()", "limits(1, 1)", "limits(1, 65)", "limits(0, 2)", "limits(10001, 2)",
                "power(1000001)", "power(1000000)", "add(1, 1, 100)", "add(1, 1, 101)", "harm(9, 9)"));
        for (String a : EDGES) {
            for (String name : List.of("open", "erase", "merge", "power", "reader", "release", "count")) {
                calls.add(name + "(" + a + ")");
            }
            calls.add("finish(" + a + ", true)");
            calls.add("finish(" + a + ", false)");
            calls.add("add(MAX, MIN, " + a + ")");
            for (String b : EDGES) {
                for (String name : List.of("limits", "harm", "value", "many", "serial", "seen", "segment")) {
                    calls.add(name + "(" + a + ", " + b + ")");
                }
            }
        }
        return calls;
    }

    private static void lookAt(String[] situation, List<String> calls) {
        List<String> unchanged = allThatFollows(made(new CommitLedger(), situation));
        for (String call : calls) {
            CHECK.part(situation[0] + ", " + call);
            Object program = made(new CommitLedger(), situation);
            Object plain = made(new PlainLedger(), situation);
            String got = Spoken.outcome(program, call);
            String due = Spoken.outcome(plain, call);
            CHECK.holds(got.equals(due), "answered " + got + ", due is " + due);
            boolean refused = List.of("bad", "state", "missing", "full", "corrupt").contains(got);
            List<String> follows = allThatFollows(program);
            List<String> asDue = refused ? unchanged : allThatFollows(plain);
            CHECK.holds(follows.equals(asDue), "then " + difference(follows, asDue));
        }
    }

    private static Object made(Object ledger, String[] situation) {
        for (int i = 1; i < situation.length; i++) {
            String outcome = Spoken.outcome(ledger, situation[i]);
            boolean answered = outcome.equals("done") || outcome.matches("-?\\d+");
            CHECK.holds(answered, situation[0] + ": " + situation[i] + " answered " + outcome);
        }
        return ledger;
    }

    /** First what can be asked, then what shows numbers, powers and files that cannot be asked for. */
    private static List<String> allThatFollows(Object ledger) {
        List<String> told = new ArrayList<>();
        askAll(ledger, told);
        String[] deeds = {"add(2, 5, 2)", "flush()", "merge(0)", "merge(1)", "finish(1, true)",
            "finish(2, false)", "reader(0)", "reader(1)", "commit()", "add(3, 6, 5)", "merge(0)",
            "prepare()", "close()", "commit()", "rollback()", "release(1)", "release(2)", "release(3)",
            "release(4)", "release(5)", "release(6)", "crash()"};
        for (String deed : deeds) {
            tell(ledger, deed, told);
        }
        for (int f = 0; f < 24; f++) {
            tell(ledger, "harm(" + f + ", 0)", told);
        }
        tell(ledger, "open(0)", told);
        tell(ledger, "open(1)", told);
        tell(ledger, "add(1, 1, 17)", told);
        tell(ledger, "merge(0)", told);
        tell(ledger, "reader(1)", told);
        tell(ledger, "close()", told);
        for (int what = 0; what < 12; what++) {
            tell(ledger, "count(" + what + ")", told);
        }
        return told;
    }

    private static void askAll(Object ledger, List<String> told) {
        for (int what = 0; what < 12; what++) {
            tell(ledger, "count(" + what + ")", told);
        }
        for (int i = 0; i < 13; i++) {
            for (int what = 0; what < 5; what++) {
                tell(ledger, "segment(" + i + ", " + what + ")", told);
            }
        }
        for (int r = 1; r <= 4; r++) {
            for (int what = 0; what < 3; what++) {
                tell(ledger, "seen(" + r + ", " + what + ")", told);
            }
            for (int i = 0; i < 6; i++) {
                tell(ledger, "serial(" + r + ", " + i + ")", told);
                tell(ledger, "many(" + r + ", " + i + ")", told);
                tell(ledger, "value(" + r + ", " + i + ")", told);
            }
        }
    }

    private static void tell(Object ledger, String call, List<String> told) {
        told.add(call + " answered " + Spoken.outcome(ledger, call));
    }

    private static String difference(List<String> got, List<String> due) {
        for (int i = 0; i < got.size(); i++) {
            if (!got.get(i).equals(due.get(i))) {
                return got.get(i) + ", due is " + due.get(i);
            }
        }
        return "all the same";
    }
}
