import java.io.IOException;
import java.lang.reflect.Method;
import java.nio.file.Files;
import java.nio.file.Paths;
import java.util.ArrayList;
import java.util.List;
import java.util.regex.Matcher;
import java.util.regex.Pattern;

/** Each word of the document that says what holds is quoted by a test. */
final class SentencesTest {
    /** Where the document lies; main sets it. */
    static String document;

    /** Words of "What it is" and "Terms" that name no case which a test could break. */
    private static final String[] WITHOUT_CASES = {"what later calls answer is free.", "Washes."};

    private static final String JOINING = "\\b(and|or|but)\\b|[.,;:]";

    private static final Pattern PROMISE = Pattern.compile("## Promise (\\d+):.*");

    private SentencesTest() {
    }

    static void eachWordIsQuotedByATest() throws IOException {
        StringBuilder missing = new StringBuilder();
        for (Sentence sentence : sentences()) {
            String words = unquoted(sentence);
            if (!words.isEmpty()) {
                missing.append("\n  ").append(sentence.promise).append(": ").append(words);
            }
        }
        Check.same("the words without a test", "", missing.toString());
    }

    static void eachQuoteStandsInTheDocument() throws IOException {
        List<Sentence> sentences = sentences();
        for (Method test : AllTests.tests()) {
            Says says = test.getAnnotation(Says.class);
            for (String quote : says == null ? new String[0] : says.value()) {
                Check.same("whether \"" + quote + "\" stands in promise " + says.promise(), "true",
                        Boolean.toString(stands(sentences, says.promise(), quote)));
            }
        }
    }

    private static final class Sentence {
        final int promise;
        final String text;

        Sentence(int promise, String text) {
            this.promise = promise;
            this.text = text;
        }

        boolean says(int part, String quote) {
            return promise == part && text.contains(quote);
        }
    }

    private static List<Sentence> sentences() throws IOException {
        List<Sentence> sentences = new ArrayList<>();
        int promise = -1;
        for (String line : Files.readAllLines(Paths.get(document))) {
            Matcher heading = PROMISE.matcher(line);
            if (heading.matches()) {
                promise = Integer.parseInt(heading.group(1));
            } else if (line.startsWith("#")) {
                promise = line.equals("## What it is") || line.equals("## Terms") ? 0 : -1;
            } else if (promise >= 0 && !line.isBlank()) {
                // The line of the call itself: the sentence stands behind it.
                String text = line.replaceFirst("^`[^`]*\\([^`]*\\)[^`]*`: ", "");
                for (String sentence : text.split("(?<=\\.)\\s+(?=[A-Z])")) {
                    sentences.add(new Sentence(promise, sentence));
                }
            }
        }
        return sentences;
    }

    private static String unquoted(Sentence sentence) {
        StringBuilder rest = new StringBuilder(sentence.text);
        for (String words : sentence.promise == 0 ? WITHOUT_CASES : new String[0]) {
            blank(rest, sentence.text, words);
        }
        for (Method test : AllTests.tests()) {
            Says says = test.getAnnotation(Says.class);
            if (says != null && says.promise() == sentence.promise) {
                for (String quote : says.value()) {
                    blank(rest, sentence.text, quote);
                }
            }
        }
        return rest.toString().replaceAll(JOINING, " ").replaceAll("\\s+", " ").strip();
    }

    /** Looks in the text that nothing was blanked in: quotes may overlap. */
    private static void blank(StringBuilder rest, String text, String words) {
        for (int at = text.indexOf(words); at >= 0; at = text.indexOf(words, at + 1)) {
            rest.replace(at, at + words.length(), " ".repeat(words.length()));
        }
    }

    private static boolean stands(List<Sentence> sentences, int promise, String quote) {
        for (Sentence sentence : sentences) {
            if (sentence.says(promise, quote)) {
                return true;
            }
        }
        return false;
    }
}
