import java.lang.reflect.Method;
import java.lang.reflect.Modifier;
import java.nio.file.Files;
import java.nio.file.Path;
import java.util.HashMap;
import java.util.Map;
import java.util.regex.Matcher;
import java.util.regex.Pattern;

/** The README's example, called line by line: each answers the number that its comment begins with. */
public final class ReadmeTest {
    private static final Pattern CALL = Pattern.compile(
        "(?:int (\\w+) = )?desk\\.(\\w+)\\(([^()]*)\\);(?: +// (-?\\d+): .*)?");
    private static final Map<String, Integer> NAMES = new HashMap<>();

    public static void main(String[] args) throws Exception {
        String text = Files.readString(Path.of("README.md"));
        example(text.substring(text.indexOf("```java\n") + 8));
        everyCallIsNamed(text);
        everyTestIsNamed(text);
        Check.end();
    }

    private static void example(String text) throws Exception {
        HereLived desk = new HereLived();
        int calls = 0;
        for (String line : text.substring(0, text.indexOf("```")).split("\n")) {
            Matcher m = CALL.matcher(line);
            if (line.isEmpty() || line.equals("HereLived desk = new HereLived();")) {
                continue;
            }
            Check.that("a call: " + line, m.matches());
            long answer = answer(desk, m.group(2), m.group(3));
            calls++;
            if (m.group(1) != null) {
                NAMES.put(m.group(1), (int) answer);
            }
            if (m.group(4) != null) {
                Check.due(line, answer, Long.parseLong(m.group(4)));
            }
        }
        Check.that("there are calls", calls > 20);
    }

    private static long answer(HereLived desk, String name, String told) throws Exception {
        String[] words = told.isEmpty() ? new String[0] : told.split(", ");
        Object[] values = new Object[words.length];
        for (int i = 0; i < words.length; i++) {
            values[i] = value(words[i]);
        }
        for (Method m : HereLived.class.getMethods()) {
            if (m.getName().equals(name)) {
                return ((Number) m.invoke(desk, values)).longValue();
            }
        }
        Check.that("there is a call " + name, false);
        return 0;
    }

    private static Object value(String word) {
        if (word.equals("true") || word.equals("false")) {
            return word.equals("true");
        }
        Integer named = NAMES.get(word);
        return named != null ? named : Integer.decode(word);
    }

    private static void everyCallIsNamed(String text) {
        for (Method m : HereLived.class.getDeclaredMethods()) {
            boolean ofFace = Modifier.isPublic(m.getModifiers());
            Check.that(m.getName() + " is named", !ofFace || text.contains("`" + m.getName() + "`"));
        }
    }

    private static void everyTestIsNamed(String text) throws Exception {
        try (var tests = Files.newDirectoryStream(Path.of("src/test/java"), "*Test.java")) {
            for (Path test : tests) {
                String name = test.getFileName().toString().replace(".java", "");
                Check.that(name + " is named", text.contains("`" + name + "`"));
            }
        }
    }
}
