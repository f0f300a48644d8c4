import java.lang.reflect.InvocationTargetException;
import java.lang.reflect.Method;
import java.util.ArrayList;
import java.util.Arrays;
import java.util.Comparator;
import java.util.List;

/** Runs every method of the test classes that takes nothing and is not private. */
public final class AllTests {
    private static final Class<?>[] TESTS = {
        FaceTest.class, InterfaceTest.class, LanguageTest.class, SentencesTest.class,
        ReadmeTest.class, TermsTest.class, BasesAndJobsTest.class, RecipeTest.class,
        MixAndPrintTest.class, WhatIsWhereTest.class, WashesPlateChipsTest.class,
        ModelRunsTest.class,
    };

    private static int passed;
    private static int failed;

    private AllTests() {
    }

    public static void main(String[] args) throws IllegalAccessException {
        LanguageTest.source = args.length > 0 ? args[0] : "src/main/java/InkKitchen.java";
        SentencesTest.document = args.length > 1 ? args[1] : "../shared/DOC.md";
        ReadmeTest.readme = args.length > 2 ? args[2] : "README.md";
        for (Method test : tests()) {
            run(test);
        }
        System.out.println("own: " + passed + " passed, " + failed + " failed");
        System.exit(failed == 0 && passed > 0 ? 0 : 1);
    }

    static List<Method> tests() {
        List<Method> tests = new ArrayList<>();
        for (Class<?> owner : TESTS) {
            Method[] methods = owner.getDeclaredMethods();
            Arrays.sort(methods, Comparator.comparing(Method::getName));
            for (Method method : methods) {
                if (isTest(method)) {
                    tests.add(method);
                }
            }
        }
        return tests;
    }

    private static boolean isTest(Method method) {
        return method.getParameterCount() == 0 && method.getReturnType() == void.class
                && !method.isSynthetic()
                && !java.lang.reflect.Modifier.isPrivate(method.getModifiers());
    }

    private static void run(Method test) throws IllegalAccessException {
        String name = test.getDeclaringClass().getSimpleName() + "." + test.getName();
        try {
            test.invoke(null);
            passed++;
        } catch (InvocationTargetException e) {
            failed++;
            System.out.println("FAILED: " + name + ": " + e.getCause());
            Arrays.stream(e.getCause().getStackTrace())
                    .filter(line -> line.getClassName().equals(test.getDeclaringClass().getName()))
                    .limit(3).forEach(line -> System.out.println("    at " + line));
        }
    }
}
