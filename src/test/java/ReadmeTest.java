import java.io.File;
import java.io.IOException;
import java.lang.reflect.Method;
import java.lang.reflect.Modifier;
import java.nio.file.Files;
import java.nio.file.Path;
import java.util.Map;
import java.util.Set;
import java.util.regex.Matcher;
import java.util.regex.Pattern;

/** What README.md says about the class and its tests is so. */
public final class ReadmeTest {

    private static final Pattern CALL =
            Pattern.compile("(?:int (\\w+) = )?ledger\\.(\\w+\\(.*\\));\\s+// (.*)");
    private static final Pattern ANSWER = Pattern.compile("(-?\\d+|\\w+Exception)(:.*)?");
    private static final Map<String, String> WORDS = Map.of(
            "IllegalArgumentException", "bad",
            "IllegalStateException", "state",
            "NoSuchElementException", "missing",
            "IndexOutOfBoundsException", "full",
            "UnsupportedOperationException", "corrupt",
            "ArithmeticException", "power");

    private static final Check CHECK = new Check();

    public static void main(String[] args) throws IOException {
        String page = Files.readString(Path.of("README.md"));
        makeExample(page);
        lookForCalls(page);
        lookForExceptions(page);
        lookForTests(page);
        CHECK.end();
    }

    private static void makeExample(String page) {
        CHECK.part("example");
        int start = page.indexOf("```java\n") + "```java\n".length();
        String[] rows = page.substring(start, page.indexOf("```", start)).split("\n");
        CHECK.holds(rows[0].equals("CommitLedger ledger = new CommitLedger();"), rows[0]);
        CommitLedger ledger = new CommitLedger();
        String reader = "";
        for (int i = 1; i < rows.length; i++) {
            Matcher row = CALL.matcher(rows[i]);
            if (!row.matches()) {
                CHECK.holds(false, "is no call with a remark: " + rows[i]);
                continue;
            }
            String got = Spoken.outcome(ledger, row.group(2).replace("(r,", "(" + reader + ","));
            if (row.group(1) != null) {
                reader = got;
            }
            CHECK.holds(got.equals(due(row.group(3))), rows[i] + " answered " + got);
        }
    }

    private static String due(String remark) {
        Matcher answer = ANSWER.matcher(remark);
        if (!answer.matches()) {
            return "done";
        }
        return WORDS.getOrDefault(answer.group(1), answer.group(1));
    }

    private static void lookForCalls(String page) {
        CHECK.part("calls");
        for (Method method : CommitLedger.class.getDeclaredMethods()) {
            if (Modifier.isPublic(method.getModifiers())) {
                CHECK.holds(page.contains("\n| `" + method.getName() + "("), method + " is not told");
            }
        }
    }

    private static void lookForExceptions(String page) {
        CHECK.part("exceptions");
        for (String name : WORDS.keySet()) {
            CHECK.holds(page.contains("\n| `" + name + "` |"), name + " is not told");
        }
    }

    private static void lookForTests(String page) {
        CHECK.part("tests");
        Set<String> helpers = Set.of("Check.java", "Spoken.java");
        for (File file : new File("src/test/java").listFiles()) {
            String name = file.getName().replace(".java", "");
            if (!helpers.contains(file.getName())) {
                CHECK.holds(page.contains("`" + name + "`"), name + " is not told");
            }
        }
    }
}
