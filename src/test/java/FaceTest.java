import java.io.IOException;
import java.lang.reflect.Constructor;
import java.lang.reflect.Field;
import java.lang.reflect.Method;
import java.lang.reflect.Modifier;
import java.nio.file.Files;
import java.nio.file.Path;
import java.util.ArrayList;
import java.util.Arrays;
import java.util.List;
import java.util.Set;
import java.util.TreeSet;
import java.util.regex.Matcher;
import java.util.regex.Pattern;

/** The document's face and no other, and the rules of LANGUAGE.md that can be looked up. */
public final class FaceTest {

    private static final String[] FACE = {
        "int open(int) IllegalArgumentException IllegalStateException UnsupportedOperationException",
        "void limits(int, int) IllegalArgumentException",
        "int add(int, int, int) IllegalArgumentException IllegalStateException"
                + " IndexOutOfBoundsException ArithmeticException",
        "int erase(int) IllegalStateException",
        "int flush() IllegalStateException ArithmeticException",
        "int merge(int) IllegalArgumentException IllegalStateException NoSuchElementException"
                + " IndexOutOfBoundsException ArithmeticException",
        "int finish(int, boolean) IllegalStateException NoSuchElementException",
        "int prepare() IllegalStateException ArithmeticException",
        "int commit() IllegalStateException ArithmeticException",
        "void rollback() IllegalStateException",
        "int close() IllegalStateException ArithmeticException",
        "void power(int) IllegalArgumentException",
        "void crash()",
        "void harm(int, int) IllegalArgumentException IllegalStateException NoSuchElementException",
        "int reader(int) IllegalArgumentException IllegalStateException NoSuchElementException"
                + " UnsupportedOperationException IndexOutOfBoundsException ArithmeticException",
        "void release(int) NoSuchElementException",
        "int value(int, int) NoSuchElementException",
        "int many(int, int) NoSuchElementException",
        "int serial(int, int) NoSuchElementException",
        "int seen(int, int) IllegalArgumentException NoSuchElementException",
        "int segment(int, int) IllegalArgumentException IllegalStateException NoSuchElementException",
        "int count(int)",
    };

    private static final String[] RULED_OUT = {
        "->", "::", "\\bsynchronized\\b", "\\bassert\\b", "\\bfinally\\b", "\\bpackage\\b",
        "\\bcatch\\b", "\\binstanceof\\b", "\\bprotected\\b", "\\bSystem\\.(?!arraycopy)",
        "\\bMath\\.\\w*Exact\\b", "\\bRandom\\b", "\\bThread\\b", "\\bstatic \\{", "\\bhashCode\\b",
        "\\btoString\\b", "\\bString\\b.*\\+", "while \\(true\\)", "for \\(;;\\)",
    };

    private static final Pattern FACE_ROW =
            Pattern.compile(" {4}public (\\w+ \\w+)\\((.*)\\)( throws .*)?;");
    private static final Path DOCUMENT = Path.of("../shared/DOC.md");
    private static final Check CHECK = new Check();

    public static void main(String[] args) throws IOException {
        lookAtFace();
        lookAtFaceInDocument();
        lookAtMembers();
        lookAtText();
        CHECK.end();
    }

    private static void lookAtFace() {
        CHECK.part("face");
        Class<CommitLedger> program = CommitLedger.class;
        CHECK.holds(program.getModifiers() == (Modifier.PUBLIC | Modifier.FINAL), "public and final");
        CHECK.holds(program.getSuperclass() == Object.class, "no class above");
        CHECK.holds(program.getInterfaces().length == 0, "no interface");
        Constructor<?>[] made = program.getDeclaredConstructors();
        CHECK.holds(made.length == 1 && made[0].getParameterCount() == 0
                && made[0].getModifiers() == Modifier.PUBLIC, "one public constructor");
        Set<String> got = new TreeSet<>();
        for (Method method : program.getDeclaredMethods()) {
            if (!Modifier.isPrivate(method.getModifiers())) {
                got.add(signature(method));
            }
        }
        Set<String> due = new TreeSet<>(Arrays.asList(FACE));
        CHECK.holds(got.equals(due), "methods are " + got + ", due are " + due);
    }

    /** The face above was copied by hand: it has to be the document's, row by row. */
    private static void lookAtFaceInDocument() throws IOException {
        CHECK.part("face in the document");
        if (!Files.exists(DOCUMENT)) {
            return;
        }
        Set<String> due = new TreeSet<>();
        for (String line : Files.readAllLines(DOCUMENT)) {
            Matcher row = FACE_ROW.matcher(line);
            if (row.matches()) {
                String takes = row.group(2).replaceAll(" \\w+(?=,|$)", "");
                String thrown = row.group(3) == null ? "" : row.group(3);
                String names = thrown.replace("throws ", "").replace("java.util.", "").replace(",", "");
                due.add(row.group(1) + "(" + takes + ")" + names);
            }
        }
        Set<String> got = new TreeSet<>(Arrays.asList(FACE));
        CHECK.holds(got.equals(due), "methods are " + got + ", the document's are " + due);
    }

    private static String signature(Method method) {
        List<String> takes = new ArrayList<>();
        for (Class<?> type : method.getParameterTypes()) {
            takes.add(type.getSimpleName());
        }
        StringBuilder text = new StringBuilder();
        text.append(method.getReturnType().getSimpleName()).append(' ').append(method.getName());
        text.append('(').append(String.join(", ", takes)).append(')');
        for (Class<?> thrown : method.getExceptionTypes()) {
            text.append(' ').append(thrown.getSimpleName());
        }
        return text.toString();
    }

    private static void lookAtMembers() {
        CHECK.part("members");
        Set<String> names = new TreeSet<>();
        for (Method method : CommitLedger.class.getDeclaredMethods()) {
            if (Modifier.isPublic(method.getModifiers())) {
                names.add(method.getName());
            }
        }
        lookAtMembersOf(CommitLedger.class, names);
        Class<?>[] inside = CommitLedger.class.getDeclaredClasses();
        CHECK.holds(inside.length <= 11, "at most twelve classes");
        for (Class<?> one : inside) {
            int access = one.getModifiers() & (Modifier.PUBLIC | Modifier.PROTECTED);
            CHECK.holds(access == 0, one + " is not seen outside");
            CHECK.holds(Modifier.isStatic(one.getModifiers()), one + " is static");
            lookAtMembersOf(one, names);
        }
    }

    private static void lookAtMembersOf(Class<?> one, Set<String> publicNames) {
        int fields = 0;
        for (Field field : one.getDeclaredFields()) {
            boolean isStatic = Modifier.isStatic(field.getModifiers());
            if (!isStatic) {
                fields++;
            } else {
                CHECK.holds(Modifier.isFinal(field.getModifiers()), field + " is final");
            }
            if (one == CommitLedger.class) {
                CHECK.holds(Modifier.isPrivate(field.getModifiers()), field + " is private");
            }
        }
        CHECK.holds(fields <= 20, one + " has at most twenty fields");
        for (Method method : one.getDeclaredMethods()) {
            CHECK.holds(method.getParameterCount() <= 7, method + " takes at most seven");
            if (one != CommitLedger.class || Modifier.isPrivate(method.getModifiers())) {
                CHECK.holds(!publicNames.contains(method.getName()), method + " has its own name");
            }
        }
    }

    private static void lookAtText() throws IOException {
        CHECK.part("text");
        List<String> lines = Files.readAllLines(Path.of("src/main/java/CommitLedger.java"));
        for (String line : lines) {
            String code = line.strip();
            if (code.startsWith("*") || code.startsWith("/*") || code.startsWith("//")) {
                continue;
            }
            for (String out : RULED_OUT) {
                CHECK.holds(!Pattern.compile(out).matcher(code).find(), out + " in: " + code);
            }
            if (code.startsWith("import")) {
                boolean known = code.equals("import java.util.ArrayList;")
                        || code.equals("import java.util.NoSuchElementException;");
                CHECK.holds(known, code);
            }
        }
    }
}
