import java.io.IOException;
import java.lang.reflect.Method;
import java.nio.file.Files;
import java.nio.file.Path;
import java.util.ArrayList;
import java.util.LinkedHashMap;
import java.util.List;
import java.util.Map;
import java.util.regex.Matcher;
import java.util.regex.Pattern;
import java.util.stream.Stream;

/**
 * The document against the tests that bear its words: what they bear stands there, and no word of what it is,
 * of the terms or of a promise is without a test. (The public face has LanguageTest.)
 */
public final class DocumentTest {
    private static final Checks CHECKS = new Checks();
    private static final Path DOCUMENT = Path.of("../shared/DOC.md"), TESTS = Path.of("src/test/java");

    private static final Map<String, String> PARTS = new LinkedHashMap<>();
    /** For each part as many signs: a space where the sign is borne by a test, else the sign. */
    private static final Map<String, StringBuilder> LEFT = new LinkedHashMap<>();

    public static void main(String[] args) throws IOException, ReflectiveOperationException {
        if (!Files.isReadable(DOCUMENT)) {
            System.out.println("DocumentTest: there is no " + DOCUMENT + " to compare with");
            return;
        }
        readParts();
        CHECKS.due("parts: what it is, four of terms, 29 promises", PARTS.size(), 34);
        for (String test : tests()) {
            strikeOut(Class.forName(test));
        }
        for (String part : PARTS.keySet()) {
            nothingIsLeft(part);
        }
        CHECKS.end("DocumentTest");
    }

    private static void readParts() throws IOException {
        for (String section : Files.readString(DOCUMENT).split("\n## ")) {
            String title = section.lines().findFirst().orElse("");
            String body = section.substring(title.length());
            String words = body.replaceAll("```(text)?", " ").replaceAll("\\s+", " ").trim();
            if (title.equals("What it is")) {
                add(title, words);
            } else if (title.equals("Terms")) {
                String[] terms = words.split("======== \\d ");
                for (int i = 0; i < terms.length; i++) {
                    add("Terms " + (i + 1), terms[i]);
                }
            } else if (title.startsWith("Promise ")) {
                add(title.substring(0, title.indexOf(':')), words.substring(words.indexOf("`: ") + 3));
            }
        }
    }

    private static void add(String part, String words) {
        PARTS.put(part, words);
        LEFT.put(part, new StringBuilder(words));
    }

    private static List<String> tests() throws IOException {
        List<String> names = new ArrayList<>();
        try (Stream<Path> files = Files.list(TESTS)) {
            files.map(file -> file.getFileName().toString()).filter(name -> name.endsWith("Test.java"))
                .sorted().forEach(name -> names.add(name.substring(0, name.length() - 5)));
        }
        return names;
    }

    private static void strikeOut(Class<?> test) throws IOException {
        String source = Files.readString(TESTS.resolve(test.getName() + ".java"));
        for (Method method : test.getDeclaredMethods()) {
            Says says = method.getAnnotation(Says.class);
            if (says != null) {
                CHECKS.due(method + " is run", source.contains("CHECKS.run(" + test.getName() + ".class)") ? 1 : 0, 1);
                for (String quote : says.value()) {
                    CHECKS.due(method + ": in the document stands " + quote, strikeOut(quote) ? 1 : 0, 1);
                }
            }
        }
    }

    private static boolean strikeOut(String quote) {
        int colon = quote.indexOf(": ");
        String part = colon < 0 ? "" : quote.substring(0, colon);
        String words = quote.substring(colon + 2);
        String whole = PARTS.getOrDefault(part, "");
        int first = whole.indexOf(words);
        for (int at = first; at >= 0; at = whole.indexOf(words, at + 1)) {
            for (int i = at; i < at + words.length(); i++) {
                LEFT.get(part).setCharAt(i, ' ');
            }
        }
        return first >= 0 && !words.isEmpty();
    }

    /** Signs between words may be left: a test may end ahead of a comma, the next begin behind it. */
    private static void nothingIsLeft(String part) {
        Matcher word = Pattern.compile("\\w+(\\W?\\w+)*").matcher(LEFT.get(part));
        CHECKS.due("words of " + part, PARTS.get(part).isEmpty() ? 0 : 1, 1);
        while (word.find()) {
            CHECKS.due(part + ": no test bears \"" + word.group() + "\"", 0, 1);
        }
    }
}
