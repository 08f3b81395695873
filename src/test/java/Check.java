import java.io.IOException;
import java.nio.file.Files;
import java.nio.file.Path;

/** Counts answers that are not as due; every test ends with end(), which sets the exit code. */
final class Check {
    private static final Path DOCUMENT = Path.of("../shared/DOC.md");
    private static int asked;
    private static int wrong;
    private static int sentences;
    private static int askedBehind = -1;
    private static String sentence = "";

    private Check() {
    }

    static void due(String call, long got, long want) {
        asked++;
        if (got != want) {
            wrong++;
            System.out.println((sentence.isEmpty() ? "" : "\"" + sentence + "\": ") + call + " answered " + got
                + ", due is " + want);
        }
    }

    static void that(String what, boolean holds) {
        due(what, holds ? 1 : 0, 1);
    }

    /** What the answers from here on are held to, in the document's own words; each sentence must have some. */
    static void says(String words) {
        lastSentenceWasAsked();
        sentence = words;
        sentences++;
        that("these words stand in the document", document().contains(plain(words)));
        askedBehind = asked;
    }

    private static void lastSentenceWasAsked() {
        that("it has a test", asked > askedBehind);
    }

    private static String document() {
        try {
            return Files.exists(DOCUMENT) ? plain(Files.readString(DOCUMENT)) : plain(sentence);
        } catch (IOException e) {
            return plain(sentence);
        }
    }

    private static String plain(String text) {
        return text.replaceAll("\\s+", " ");
    }

    /** Puts a text on the tape, which must be empty. */
    static void tell(HereLived x, String text) {
        int n = text.length();
        for (int i = 0; i < n; i += 20) {
            x.feed(four(text, i), four(text, i + 4), four(text, i + 8), four(text, i + 12), four(text, i + 16));
        }
        due("end(" + n + ") behind a text", x.end(n), n);
    }

    static int four(String text, int at) {
        int four = 0;
        for (int i = at; i < at + 4; i++) {
            four = four << 8 | (i < text.length() ? text.charAt(i) & 255 : 0);
        }
        return four;
    }

    static void end() {
        if (sentences > 0) {
            lastSentenceWasAsked();
        }
        System.out.println((sentences > 0 ? sentences + " sentences, " : "") + asked + " answers, " + wrong
            + " not as due");
        if (wrong != 0) {
            System.exit(1);
        }
    }
}
