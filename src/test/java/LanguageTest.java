import java.io.IOException;
import java.nio.file.Files;
import java.nio.file.Paths;
import java.util.regex.Matcher;
import java.util.regex.Pattern;

/** What of LANGUAGE.md can be told from the text of the source: rules 1, 4, 6, 10 and 13. */
final class LanguageTest {
    /** Where the source lies; main sets it. */
    static String source;

    private static final String[] FORBIDDEN = {
        "\\bimport\\b", "\\bpackage\\b", "->", "::", "\\btry\\b", "\\bcatch\\b", "\\bfinally\\b",
        "\\bassert\\b", "\\bsynchronized\\b", "\\bnative\\b", "\\bSystem\\b", "\\bThread\\b",
        "\\brandom\\b", "Exact\\b", "\\bdouble\\b", "\\bfloat\\b", "\\bstatic\\s*\\{", "\\bnull\\b",
        "\\bObject\\b", "\\bequals\\b", "\\bhashCode\\b", "\\btoString\\b",
    };

    private LanguageTest() {
    }

    static void nothingForbiddenStands() throws IOException {
        String code = codeAlone();
        for (String forbidden : FORBIDDEN) {
            Matcher matcher = Pattern.compile(forbidden).matcher(code);
            Check.same("a look for " + forbidden, "false", Boolean.toString(matcher.find()));
        }
    }

    static void onlyMathIsTakenFromTheLibrary() throws IOException {
        String[] known = {"InkKitchen", "Ink", "Shelf", "Ladle", "Job", "Recipe", "RecipeSearch",
            "Press", "WashPlan", "Math", "IllegalArgumentException",
            "IllegalStateException", "IndexOutOfBoundsException"};
        String names = codeAlone().replaceAll("\\b(" + String.join("|", known) + ")\\b", "");
        Matcher matcher = Pattern.compile("\\b[A-Z]\\w*[a-z]\\w*\\b").matcher(names);
        Check.same("another name of a class", "", matcher.find() ? matcher.group() : "");
    }

    static void everyExceptionIsThrownByAWrittenThrow() throws IOException {
        String code = codeAlone();
        String written = "\\bthrow new (IllegalArgument|IllegalState|IndexOutOfBounds)"
                + "Exception\\(\\);";
        int thrown = code.split("\\bthrow\\b", -1).length;
        Check.same("the count of written throws", Integer.toString(thrown),
                Integer.toString(code.split(written, -1).length));
    }

    private static String codeAlone() throws IOException {
        String text = new String(Files.readAllBytes(Paths.get(source)));
        return text.replaceAll("(?s)/\\*.*?\\*/", "").replaceAll("//[^\n]*", "");
    }
}
