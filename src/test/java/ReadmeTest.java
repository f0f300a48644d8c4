import java.io.IOException;
import java.lang.reflect.InvocationTargetException;
import java.lang.reflect.Method;
import java.nio.file.Files;
import java.nio.file.Paths;
import java.util.ArrayList;
import java.util.List;
import java.util.Set;
import java.util.TreeSet;
import java.util.regex.Matcher;
import java.util.regex.Pattern;

/** The run of calls that README.md shows: each call answers what stands behind it. */
final class ReadmeTest {
    /** Where the text lies; main sets it. */
    static String readme;

    private static final Pattern CALL =
            Pattern.compile("room\\.(\\w+)\\(([^)]*)\\);\\s*// ([^:]+)(:.*)?");

    private ReadmeTest() {
    }

    @Says("Callers buy bases, take jobs, mix, print, let days go by, and ask.")
    static void eachCallOfTheRunAnswersWhatStandsBehindIt() throws IOException {
        InkKitchen room = new InkKitchen();
        for (Matcher call : calls()) {
            Check.same(call.group(), call.group(3), answer(room, call.group(1), call.group(2)));
        }
    }

    static void theRunShowsEachCallOfTheFace() throws IOException {
        Set<String> shown = new TreeSet<>();
        for (Matcher call : calls()) {
            shown.add(call.group(1));
        }
        Set<String> face = new TreeSet<>();
        for (Method method : InkKitchen.class.getMethods()) {
            if (method.getDeclaringClass() == InkKitchen.class) {
                face.add(method.getName());
            }
        }
        Check.same("the calls that are shown", face.toString(), shown.toString());
    }

    private static List<Matcher> calls() throws IOException {
        List<Matcher> calls = new ArrayList<>();
        for (String line : Files.readAllLines(Paths.get(readme))) {
            if (line.startsWith("room.")) {
                Matcher call = CALL.matcher(line);
                Check.same("whether \"" + line + "\" tells a call and its answer", "true",
                        Boolean.toString(call.matches()));
                calls.add(call);
            }
        }
        return calls;
    }

    private static String answer(InkKitchen room, String name, String written) {
        String[] texts = written.isEmpty() ? new String[0] : written.split(", ");
        Object[] values = new Object[texts.length];
        for (int i = 0; i < texts.length; i++) {
            boolean isTruth = texts[i].equals("true") || texts[i].equals("false");
            values[i] = isTruth ? (Object) Boolean.valueOf(texts[i]) : Integer.valueOf(texts[i]);
        }
        try {
            Object answer = named(name).invoke(room, values);
            return answer == null ? "nothing" : answer.toString();
        } catch (InvocationTargetException e) {
            return "throws " + e.getCause().getClass().getSimpleName();
        } catch (IllegalAccessException e) {
            throw new AssertionError(e);
        }
    }

    private static Method named(String name) {
        for (Method method : InkKitchen.class.getMethods()) {
            if (method.getName().equals(name)) {
                return method;
            }
        }
        throw new AssertionError("no call " + name);
    }
}
