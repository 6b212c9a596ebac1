import java.io.IOException;
import java.lang.reflect.Constructor;
import java.lang.reflect.Field;
import java.lang.reflect.Method;
import java.lang.reflect.Modifier;
import java.nio.file.Files;
import java.nio.file.Path;
import java.util.List;
import java.util.regex.Pattern;

/** The rules of LANGUAGE.md that can be seen without reading the class: words, sizes and kinds. */
public final class LanguageTest {
    private static final Path FILE = Path.of("src", "main", "java", "FleetWaves.java");
    private static final List<Class<?>> CONSTANT_TYPES =
            List.of(int.class, long.class, boolean.class, char.class, String.class);
    /** What a rule rules out, or what the class has no need of, so that it needs no look either. */
    private static final String[] RULED_OUT = {
        "package", "->", "::", "try", "catch", "finally", "synchronized", "assert", "volatile",
        "\\w+Exact", "equals", "hashCode", "toString", "static\\s*\\{", "System", "Thread", "Random",
        "double", "float", "native", "while", "java\\.(?!util\\.ArrayList;)[\\w.]+", "\"\\s*\\+",
        "for\\s*\\([^;)]*:[^)]*\\)",
    };
    private static final int MOST_LINES = 60;
    private static final int MOST_CLASSES = 12;
    private static final int MOST_FIELDS = 20;
    private static final int MOST_PARAMETERS = 7;

    public static void main(String[] args) throws IOException {
        Check check = new Check();
        String code = withoutComments(Files.readString(FILE));
        wordsRuledOut(check, code);
        lengthOfMethods(check, code);
        Class<?>[] inside = FleetWaves.class.getDeclaredClasses();
        check.that("classes", 1 + inside.length, Math.min(MOST_CLASSES, 1 + inside.length));
        sizes(check, FleetWaves.class);
        for (Class<?> one : inside) {
            int modifiers = one.getModifiers();
            check.that("rule 1, " + one + " is static", Modifier.isStatic(modifiers) ? 1 : 0, 1);
            check.that("rule 1, " + one + " is not public or protected",
                    Modifier.isPublic(modifiers) || Modifier.isProtected(modifiers) ? 1 : 0, 0);
            sizes(check, one);
        }
        check.end();
    }

    private static String withoutComments(String source) {
        return source.replaceAll("(?s)/\\*.*?\\*/", "").replaceAll("//[^\n]*", "");
    }

    private static void wordsRuledOut(Check check, String code) {
        for (String words : RULED_OUT) {
            boolean isWord = Character.isLetter(words.charAt(0));
            Pattern pattern = Pattern.compile(isWord ? "\\b(?:" + words + ")(?!\\w)" : words);
            check.that("times that it has " + words, pattern.matcher(code).results().count(), 0);
        }
        check.that("characters above 255", code.chars().filter(c -> c > 255).count(), 0);
    }

    /** A method starts at a line that ends in ") {" or "Exception {", two or three levels deep. */
    private static void lengthOfMethods(Check check, String code) {
        int depth = 0;
        int started = -1;
        int startDepth = 0;
        String[] lines = code.split("\n");
        for (int i = 0; i < lines.length; i++) {
            boolean isHead = started < 0 && lines[i].matches("\\s*[^=]*(\\)|Exception) \\{");
            if (isHead) {
                started = i;
                startDepth = depth;
            }
            depth += count(lines[i], '{') - count(lines[i], '}');
            if (started >= 0 && depth <= startDepth) {
                int length = i - started + 1;
                check.that("rule 11, lines of" + lines[started], length, Math.min(length, MOST_LINES));
                started = -1;
            }
        }
        check.that("braces that stay open", depth, 0);
    }

    private static int count(String line, char sought) {
        return (int) line.chars().filter(c -> c == sought).count();
    }

    private static void sizes(Check check, Class<?> one) {
        int fields = 0;
        for (Field field : one.getDeclaredFields()) {
            int modifiers = field.getModifiers();
            if (!Modifier.isStatic(modifiers)) {
                fields++;
                continue;
            }
            boolean isConstant = Modifier.isFinal(modifiers) && CONSTANT_TYPES.contains(field.getType());
            check.that("rule 5, " + field + " is a constant", isConstant ? 1 : 0, 1);
        }
        check.that("rule 11, fields of " + one, fields, Math.min(fields, MOST_FIELDS));
        for (Method method : one.getDeclaredMethods()) {
            int parameters = method.getParameterCount();
            check.that("rule 11, " + method, parameters, Math.min(parameters, MOST_PARAMETERS));
        }
        for (Constructor<?> constructor : one.getDeclaredConstructors()) {
            int parameters = constructor.getParameterCount();
            check.that("rule 11, " + constructor, parameters, Math.min(parameters, MOST_PARAMETERS));
        }
    }
}
