import java.io.IOException;
import java.nio.charset.StandardCharsets;
import java.nio.file.Files;
import java.nio.file.Path;
import java.util.Arrays;
import java.util.LinkedHashMap;
import java.util.Map;
import java.util.regex.Pattern;

/**
 * The sentences of the document. A test says the sentence that it stands for, word by word, before its checks;
 * noneIsLeft finds the sentences of the terms and the promises that no test said, so none can be passed over.
 */
final class Doc {
    private static final Path PLACE = Path.of("../shared/DOC.md");
    private static final Pattern BETWEEN_SENTENCES = Pattern.compile("(?<=[.:]) (?=[A-Z])");
    private static final Pattern TOPIC = Pattern.compile("[A-Z][a-z]+( [a-z]+)?\\.");

    // a sentence with its section ahead of it, and the checks that were done for it
    private static final Map<String, Integer> CHECKS = new LinkedHashMap<>();
    private static String said = null;
    private static int doneBefore = 0;

    private Doc() {
    }

    static void read() throws IOException {
        String section = "";
        boolean isCode = false;
        for (String line : Files.readAllLines(PLACE, StandardCharsets.UTF_8)) {
            if (line.startsWith("```")) {
                isCode = !isCode;
            } else if (line.startsWith("## ")) {
                section = section(line.substring(3));
            } else if (!isCode && !line.isBlank() && !line.startsWith("Ahead of the calls")) {
                readLine(section, line.strip());
            }
        }
    }

    private static String section(String title) {
        return title.startsWith("Promise ") ? title.substring(0, title.indexOf(':')) : title;
    }

    private static void readLine(String section, String line) {
        // a signature stands ahead of what it does; a parameter or an exception is one sentence
        String text = line.startsWith("`") ? line.substring(line.indexOf("`: ") + 3) : line;
        boolean isOne = line.startsWith("- `") || line.startsWith("Throws ");
        String[] sentences = isOne ? new String[] {text} : BETWEEN_SENTENCES.split(text);
        for (String sentence : sentences) {
            if (!TOPIC.matcher(sentence).matches()) {
                CHECKS.put(section + ": " + sentence, 0);
            }
        }
    }

    /** Begins the test of a sentence of a promise. */
    static void says(int promise, String sentence) {
        begin("Promise " + promise + ": " + sentence, "");
    }

    /** Begins the test of a sentence of the terms, with the promises that it is tested on. */
    static void terms(String sentence, int... promises) {
        begin("Terms: " + sentence, " (promises " + Arrays.toString(promises) + ")");
    }

    /** Begins the test of a sentence of the document's first section. */
    static void first(String sentence) {
        begin("What it is: " + sentence, "");
    }

    private static void begin(String sentence, String promises) {
        endSaid();
        Check.due("the document has the sentence: " + sentence, true, CHECKS.containsKey(sentence));
        Check.begin(sentence + promises);
        said = sentence;
        doneBefore = Check.done();
    }

    private static void endSaid() {
        if (said != null) {
            int done = Check.done() - doneBefore;
            CHECKS.merge(said, done, Integer::sum);
            Check.due("the sentence has a check", true, done > 0);
            Check.begin("");
            said = null;
        }
    }

    static void noneIsLeft() {
        endSaid();
        int sentences = 0;
        for (Map.Entry<String, Integer> entry : CHECKS.entrySet()) {
            String sentence = entry.getKey();
            if (sentence.startsWith("Terms: ") || sentence.startsWith("Promise ")) {
                sentences++;
                Check.due("a test says: " + sentence, true, entry.getValue() > 0);
            }
        }
        Check.due("sentences were found", true, sentences > 200);
    }
}
