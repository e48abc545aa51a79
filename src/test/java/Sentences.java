import java.io.IOException;
import java.nio.file.Files;
import java.nio.file.Path;
import java.util.Arrays;
import java.util.LinkedHashMap;
import java.util.Map;
import java.util.regex.Matcher;
import java.util.regex.Pattern;

/**
 * The document's "Terms" and promises, word by word: each test begins with the words that it is for, and a word that
 * no test is for is a fault, as are words that do not stand in the document.
 */
final class Sentences {
    static final int TERMS = 0;
    private static final Path DOCUMENT = Path.of("../shared/DOC.md");
    private static final int PROMISES = 29;

    private final Map<Integer, String> texts = new LinkedHashMap<>();
    private final Map<Integer, boolean[]> told = new LinkedHashMap<>();
    private String now = "";
    private int answers;
    private int answersNow = 1;
    private int sentences;
    private int wrong;

    Sentences() throws IOException {
        if (!Files.exists(DOCUMENT)) {
            System.out.println("Sentences: no " + DOCUMENT + ": the words are not held against it");
            return;
        }
        String document = Files.readString(DOCUMENT);
        put(TERMS, between(document, "## Terms\n", "## Promise 1:"));
        for (int i = 1; i <= PROMISES; i++) {
            String end = i < PROMISES ? "## Promise " + (i + 1) + ":" : "## Not promised";
            String promise = between(document, "## Promise " + i + ":", end);
            put(i, promise.substring(promise.indexOf("`: ") + 3));
        }
    }

    private static String between(String text, String from, String to) {
        int start = text.indexOf(from) + from.length();
        return text.substring(start, text.indexOf(to, start));
    }

    private void put(int part, String text) {
        String plain = text.replaceAll("```(text)?", " ").replaceAll("={8} \\d", " ").replaceAll("\\s+", " ");
        texts.put(part, plain);
        told.put(part, new boolean[plain.length()]);
    }

    /** The test of these words of a promise, or of the terms, begins; where they stand twice, it is for both. */
    void says(int part, String words) {
        tested();
        now = (part == TERMS ? "Terms" : "Promise " + part) + " \"" + words + "\"";
        sentences++;
        answersNow = 0;
        if (texts.isEmpty()) {
            return;
        }
        Matcher matcher = Pattern.compile("(?<![a-z0-9])" + Pattern.quote(words) + "(?![a-z0-9])")
            .matcher(texts.get(part));
        boolean stands = false;
        while (matcher.find()) {
            stands = true;
            Arrays.fill(told.get(part), matcher.start(), matcher.end(), true);
        }
        if (!stands) {
            complain("does not stand in the document");
        }
    }

    private void tested() {
        if (answersNow == 0) {
            complain("has no test");
        }
    }

    void due(String call, long got, long want) {
        answers++;
        answersNow++;
        if (got != want) {
            complain(call + " answered " + got + ", due is " + want);
        }
    }

    private void complain(String what) {
        wrong++;
        System.out.println(now + ": " + what);
    }

    void end() {
        tested();
        texts.forEach((part, text) -> {
            StringBuilder left = new StringBuilder();
            for (int i = 0; i < text.length(); i++) {
                left.append(told.get(part)[i] ? '\n' : text.charAt(i));
            }
            for (String words : left.toString().split("\n")) {
                if (words.matches(".*[A-Za-z0-9].*")) {
                    now = part == TERMS ? "Terms" : "Promise " + part;
                    complain("no test for \"" + words + "\"");
                }
            }
        });
        System.out.println("Sentences: " + sentences + " of them, " + answers + " answers, " + wrong + " not as due");
        if (wrong != 0) {
            System.exit(1);
        }
    }
}
