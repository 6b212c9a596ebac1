import java.io.IOException;
import java.lang.reflect.InvocationTargetException;
import java.lang.reflect.Method;
import java.nio.file.Files;
import java.nio.file.Path;
import java.util.ArrayList;
import java.util.List;
import java.util.Set;
import java.util.TreeSet;
import java.util.regex.Matcher;
import java.util.regex.Pattern;

/** README.md: its calls answer what it says, and its table has the face with the right refusals. */
public final class ReadmeTest {
    private static final Path FILE = Path.of("README.md");
    /** A line such as "fleet.state(1);   // 2: it is PAUSED". */
    private static final Pattern CALL =
            Pattern.compile("(?m)^fleet\\.(\\w+)\\(([^)]*)\\);\\s*// (-?\\d+|ArithmeticException)\\b");
    /** A row such as "| `int state(int campaign)` | what it answers | refusals |". */
    private static final Pattern ROW =
            Pattern.compile("(?m)^\\| `(\\w+ (\\w+)\\([^`]*)` \\|(.*)\\|(.*)\\|$");
    private static final Pattern REFUSAL = Pattern.compile("(?<![\\w^])-[1-4] ");

    public static void main(String[] args) throws Exception {
        Check check = new Check();
        String text = Files.readString(FILE);
        calls(check, text);
        if (Doc.isThere()) {
            table(check, text);
        }
        commands(check, text);
        check.end();
    }

    private static void calls(Check check, String text) throws Exception {
        FleetWaves fleet = new FleetWaves();
        Set<String> called = new TreeSet<>();
        int made = 0;
        for (Matcher line = CALL.matcher(text); line.find();) {
            String due = line.group(3);
            check.that(line.group(), answer(fleet, line.group(1), line.group(2).split(", ")),
                    due.equals("ArithmeticException") ? Check.THROWS : Long.parseLong(due));
            called.add(line.group(1));
            made++;
        }
        check.that("methods that are called, " + called, called.size(), 13);
        check.that("lines with a call that are read", made,
                text.lines().filter(line -> line.startsWith("fleet.")).count());
    }

    private static long answer(FleetWaves fleet, String name, String[] texts) throws Exception {
        for (Method method : FleetWaves.class.getDeclaredMethods()) {
            if (method.getName().equals(name)) {
                try {
                    return ((Number) method.invoke(fleet, arguments(method, texts))).longValue();
                } catch (InvocationTargetException e) {
                    return e.getCause() instanceof ArithmeticException ? Check.THROWS : Long.MAX_VALUE;
                }
            }
        }
        throw new IllegalArgumentException("there is no method " + name);
    }

    private static Object[] arguments(Method method, String[] texts) {
        Object[] arguments = new Object[texts.length];
        for (int i = 0; i < texts.length; i++) {
            Class<?> type = method.getParameterTypes()[i];
            if (type == boolean.class) {
                arguments[i] = Boolean.valueOf(texts[i]);
            } else if (type == long.class) {
                arguments[i] = Long.valueOf(texts[i]);
            } else {
                arguments[i] = Integer.valueOf(texts[i]);
            }
        }
        return arguments;
    }

    private static void table(Check check, String text) {
        List<String> face = Doc.face();
        List<String> rows = new ArrayList<>();
        for (Matcher row = ROW.matcher(text); row.find();) {
            String method = row.group(1);
            String told = face.get(Math.min(rows.size(), face.size() - 1));
            check.that("the row of " + method, told.startsWith(method) ? 1 : 0, 1);
            check.that(method + " has its exception", row.group(3).contains("ArithmeticException") ? 1 : 0,
                    told.contains("ArithmeticException") ? 1 : 0);
            rows.add(method);
            // Promise 1 is the constructor, and the others go by the order of the face.
            String promise = Doc.section("Promise " + (1 + rows.size())).replaceAll("^`[^`]*`:", "");
            check.that(method + " has the document's refusals " + refusals(promise),
                    refusals(row.group(4)).equals(refusals(promise)) ? 1 : 0, 1);
        }
        check.that("rows", rows.size(), face.size());
    }

    private static List<String> refusals(String text) {
        List<String> found = new ArrayList<>();
        for (Matcher refusal = REFUSAL.matcher(text); refusal.find();) {
            found.add(refusal.group().trim());
        }
        return found;
    }

    private static void commands(Check check, String text) throws IOException {
        check.that("it has the command that runs all tests", text.contains("\n.ci/run\n") ? 1 : 0, 1);
        check.that("which is there", Files.isExecutable(Path.of(".ci", "run")) ? 1 : 0, 1);
        check.that("it has the command that compiles the class",
                text.contains("\njavac -d out src/main/java/FleetWaves.java\n") ? 1 : 0, 1);
        try (var files = Files.list(Path.of("src", "test", "java"))) {
            long unnamed = files.map(file -> file.getFileName().toString().replace(".java", ""))
                    .filter(name -> name.endsWith("Test") && !name.startsWith("Promise"))
                    .filter(name -> !text.contains("`" + name + "`"))
                    .count();
            check.that("tests that it does not name", unnamed, 0);
        }
    }
}
