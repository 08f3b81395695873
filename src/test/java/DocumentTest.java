import java.io.IOException;
import java.nio.file.DirectoryStream;
import java.nio.file.Files;
import java.nio.file.Path;
import java.util.List;
import java.util.regex.Matcher;
import java.util.regex.Pattern;

/**
 * Every word of the document that promises something is quoted by some test (Check.says), so that none is forgotten.
 * Only headings, the face (FaceTest holds it), names of terms and what is not promised may stand unquoted.
 */
public final class DocumentTest {
    private static final Path DOCUMENT = Path.of("../shared/DOC.md");
    private static final Pattern QUOTE = Pattern.compile("says\\(((?:\\s*\"(?:[^\"\\\\]|\\\\.)*\"\\s*\\+?)+)\\)");
    private static final Pattern PART = Pattern.compile("\"((?:[^\"\\\\]|\\\\.)*)\"");
    private static final List<String> UNQUOTED = List.of("NUMBERINGS of a SITE:", "Each may be found FALSE.", "LIVED:",
        "RULES' text:", "FAULTS:", "What speaks against one, bits:", "WORDS of a PLAQUE (on THE TAPE):", "YEARS in WORDS:",
        "; what later calls answer is free.");

    public static void main(String[] args) throws IOException {
        if (!Files.exists(DOCUMENT)) {
            System.out.println("there is no " + DOCUMENT + " here");
            return;
        }
        String document = promised(Files.readString(DOCUMENT));
        boolean[] quoted = new boolean[document.length()];
        try (DirectoryStream<Path> tests = Files.newDirectoryStream(Path.of("src/test/java"), "*Test.java")) {
            for (Path test : tests) {
                mark(document, quoted, Files.readString(test));
            }
        }
        UNQUOTED.forEach(words -> mark(document, quoted, "says(\"" + words + "\")"));
        everyWordIsQuoted(document, quoted);
        Check.end();
    }

    /** Without headings, the face and the names of calls, up to 'Not promised'. */
    private static String promised(String text) {
        String promised = text.substring(0, text.indexOf("## Not promised"));
        promised = promised.replaceAll("(?s)```java.*?```", " ").replaceAll("```(text)?", " ");
        promised = promised.replaceAll("(?m)^#.*$", " ").replaceAll("(?m)^I+\\. ", " ");
        promised = promised.replaceAll("(?m)^`(int|long|HereLived)\\b[^`]*`:", " ");
        promised = promised.replaceAll("(?m)^(The constants: )?`[A-Z]+ = -\\d`:.*$", " ");
        promised = promised.replaceAll("(?m)^Ahead of the calls .*$", " ");
        return promised.replaceAll("\\s+", " ");
    }

    private static void mark(String document, boolean[] quoted, String source) {
        Matcher quotes = QUOTE.matcher(source);
        while (quotes.find()) {
            StringBuilder words = new StringBuilder();
            Matcher parts = PART.matcher(quotes.group(1));
            while (parts.find()) {
                words.append(parts.group(1).replace("\\\"", "\""));
            }
            int at = document.indexOf(words.toString());
            while (at >= 0) {
                java.util.Arrays.fill(quoted, at, at + words.length(), true);
                at = document.indexOf(words.toString(), at + 1);
            }
        }
    }

    private static void everyWordIsQuoted(String document, boolean[] quoted) {
        StringBuilder left = new StringBuilder();
        for (int i = 0; i < quoted.length; i++) {
            left.append(quoted[i] ? '|' : document.charAt(i));
        }
        for (String words : left.toString().split("\\|+")) {
            Check.that("quoted by a test: [" + words.strip() + "]", words.matches("[ ;:,.]*|[ ;,]*and[ ;,]*"));
        }
    }
}
