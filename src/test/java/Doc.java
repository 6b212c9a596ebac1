import java.io.IOException;
import java.io.UncheckedIOException;
import java.nio.file.Files;
import java.nio.file.Path;
import java.util.ArrayList;
import java.util.Arrays;
import java.util.List;
import java.util.Map;
import java.util.TreeMap;
import java.util.regex.Matcher;
import java.util.regex.Pattern;

/**
 * The document ../shared/DOC.md by its sections, white space made even, for tests that quote it.
 * Where there is no document, quotes cannot be compared, and the tests of the class go on without.
 */
final class Doc {
    private static final Path FILE = Path.of("..", "shared", "DOC.md");
    private static final Map<String, String> SECTIONS = read();

    private Doc() {
    }

    static boolean isThere() {
        return !SECTIONS.isEmpty();
    }

    /** Whether a promise's own section, or a section that holds for all promises, has these words. */
    static boolean says(String promise, String words) {
        return !isThere()
                || section(promise).contains(words)
                || section("Terms").contains(words)
                || section("What it is").contains(words);
    }

    static int sections() {
        return SECTIONS.size();
    }

    /** A section's text by its heading, up to a colon: "Promise 2" for "Promise 2: car". */
    static String section(String name) {
        return SECTIONS.getOrDefault(name, "");
    }

    /** The methods of the public face, each as its line has it, without "public". */
    static List<String> face() {
        List<String> methods = new ArrayList<>();
        Matcher line = Pattern.compile("public (\\w+ \\w+\\([^;]*);").matcher(section("The public face"));
        while (line.find()) {
            methods.add(line.group(1));
        }
        return methods;
    }

    /** The words of a section that stand in none of the quotes; what the face says is left out. */
    static List<String> wordsOutside(String name, List<String> quotes) {
        String text = section(name).replaceAll("^`[^`]*`:", "");
        boolean[] quoted = new boolean[text.length()];
        for (String quote : quotes) {
            int at = text.indexOf(quote);
            if (at >= 0) {
                Arrays.fill(quoted, at, at + quote.length(), true);
            }
        }
        StringBuilder rest = new StringBuilder();
        for (int i = 0; i < quoted.length; i++) {
            rest.append(quoted[i] ? ' ' : text.charAt(i));
        }
        List<String> words = new ArrayList<>();
        for (String word : rest.toString().trim().split("\\s+")) {
            if (word.chars().anyMatch(Character::isLetterOrDigit)) {
                words.add(word);
            }
        }
        return words;
    }

    private static Map<String, String> read() {
        Map<String, String> sections = new TreeMap<>();
        if (!Files.exists(FILE)) {
            return sections;
        }
        try {
            for (String section : Files.readString(FILE).split("(?m)^## ")) {
                String[] parts = section.split("\n", 2);
                String text = parts.length < 2 ? "" : parts[1].replaceAll("(?m)^```.*$", " ");
                sections.put(parts[0].split(":")[0].trim(), text.replaceAll("\\s+", " ").trim());
            }
        } catch (IOException e) {
            throw new UncheckedIOException(e);
        }
        return sections;
    }
}
