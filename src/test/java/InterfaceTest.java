import java.io.IOException;
import java.nio.file.Files;
import java.nio.file.Paths;
import java.util.regex.Matcher;
import java.util.regex.Pattern;

/** The text of the class: the face in the document's words, and what stands ahead of its calls. */
final class InterfaceTest {
    private InterfaceTest() {
    }

    static void eachDeclarationStandsAsInTheDocument() throws IOException {
        String document = read(SentencesTest.document);
        String face = document.substring(document.indexOf("```java"));
        String source = oneSpaced(read(LanguageTest.source));
        Matcher declaration = Pattern.compile("public [^{};]*(?=[{;])")
                .matcher(face.substring(0, face.indexOf("\n```")));
        int count = 0;
        for (; declaration.find(); count++) {
            String due = oneSpaced(declaration.group()).strip() + " {";
            Check.same("whether \"" + due + "\" stands in the class", "true",
                    Boolean.toString(source.contains(due)));
        }
        Check.same("the class, its constructor and its calls", "19", Integer.toString(count));
    }

    @Says("Ahead of the calls `setBase`, `buy`, `job`, `recipe`, `mix`, `print`, `pass` the interface"
        + " says: ---- bases and jobs.")
    static void basesAndJobsAreTogether() throws IOException {
        dueBehind("bases and jobs", "setBase", "buy", "job", "recipe", "mix", "print", "pass");
    }

    @Says("Ahead of the calls `state`, `tins`, `inTin`, `shade`, `where` the interface says: ----"
        + " what is where.")
    static void whatIsWhereIsTogether() throws IOException {
        dueBehind("what is where", "state", "tins", "inTin", "shade", "where");
    }

    @Says("Ahead of the calls `washes`, `washesByAll`, `firstRun`, `wear`, `chipGap` the interface"
        + " says: ---- washes, plate, chips.")
    static void washesPlateAndChipsAreTogether() throws IOException {
        dueBehind("washes, plate, chips", "washes", "washesByAll", "firstRun", "wear", "chipGap");
    }

    /** Each of the calls has this heading as the last one ahead of it. */
    private static void dueBehind(String heading, String... calls) throws IOException {
        String source = read(LanguageTest.source);
        for (String call : calls) {
            Matcher found = Pattern.compile("public \\w+ " + call + "\\(").matcher(source);
            Check.same("a look for " + call, "true", Boolean.toString(found.find()));
            String ahead = source.substring(0, found.start());
            String last = ahead.substring(Math.max(0, ahead.lastIndexOf("// ----")));
            Check.same("the heading ahead of " + call, "// ---- " + heading,
                    last.lines().findFirst().orElse(""));
        }
    }

    private static String oneSpaced(String text) {
        return text.replaceAll("\\s+", " ");
    }

    private static String read(String file) throws IOException {
        return new String(Files.readAllBytes(Paths.get(file)));
    }
}
