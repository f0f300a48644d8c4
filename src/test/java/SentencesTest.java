import java.io.IOException;
import java.lang.reflect.Method;
import java.nio.file.Files;
import java.nio.file.Paths;
import java.util.ArrayList;
import java.util.List;
import java.util.regex.Matcher;
import java.util.regex.Pattern;

/** Each sentence of the document that says what holds is quoted by a test, in its own words. */
final class SentencesTest {
    /** Where the document lies; main sets it. */
    static String document;

    /** What tells of the document itself and names no case that a test could break. */
    private static final String[] WITHOUT_CASES = {
        "A press room that mixes", "Callers buy bases", "Washes.", "Ahead of the calls",
    };

    private static final Pattern PROMISE = Pattern.compile("## Promise (\\d+):.*");

    private SentencesTest() {
    }

    static void eachSentenceIsQuotedByATest() throws IOException {
        StringBuilder missing = new StringBuilder();
        for (Sentence sentence : sentences()) {
            if (!isWithoutCases(sentence) && !isQuoted(sentence)) {
                missing.append("\n  ").append(sentence.promise).append(": ").append(sentence.text);
            }
        }
        Check.same("the sentences without a test", "", missing.toString());
    }

    static void eachQuoteStandsInTheDocument() throws IOException {
        List<Sentence> sentences = sentences();
        for (Method test : AllTests.tests()) {
            Says says = test.getAnnotation(Says.class);
            for (String quote : says == null ? new String[0] : says.value()) {
                Check.same("whether \"" + quote + "\" stands in promise " + says.promise(), "true",
                        Boolean.toString(stands(sentences, says.promise(), quote)));
            }
        }
    }

    private static final class Sentence {
        final int promise;
        final String text;

        Sentence(int promise, String text) {
            this.promise = promise;
            this.text = text;
        }

        boolean says(int part, String quote) {
            return promise == part && text.contains(quote);
        }
    }

    private static List<Sentence> sentences() throws IOException {
        List<Sentence> sentences = new ArrayList<>();
        int promise = -1;
        for (String line : Files.readAllLines(Paths.get(document))) {
            Matcher heading = PROMISE.matcher(line);
            if (heading.matches()) {
                promise = Integer.parseInt(heading.group(1));
            } else if (line.startsWith("#")) {
                promise = line.equals("## What it is") || line.equals("## Terms") ? 0 : -1;
            } else if (promise >= 0 && !line.isBlank()) {
                // The line of the call itself: the sentence stands behind it.
                String text = line.replaceFirst("^`[^`]*\\([^`]*\\)[^`]*`: ", "");
                for (String sentence : text.split("(?<=\\.)\\s+(?=[A-Z])")) {
                    sentences.add(new Sentence(promise, sentence));
                }
            }
        }
        return sentences;
    }

    private static boolean isWithoutCases(Sentence sentence) {
        for (String begin : WITHOUT_CASES) {
            if (sentence.promise == 0 && sentence.text.startsWith(begin)) {
                return true;
            }
        }
        return false;
    }

    private static boolean isQuoted(Sentence sentence) {
        for (Method test : AllTests.tests()) {
            Says says = test.getAnnotation(Says.class);
            for (String quote : says == null ? new String[0] : says.value()) {
                if (sentence.says(says.promise(), quote)) {
                    return true;
                }
            }
        }
        return false;
    }

    private static boolean stands(List<Sentence> sentences, int promise, String quote) {
        for (Sentence sentence : sentences) {
            if (sentence.says(promise, quote)) {
                return true;
            }
        }
        return false;
    }
}
