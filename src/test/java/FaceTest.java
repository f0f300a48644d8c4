import java.lang.reflect.Constructor;
import java.lang.reflect.Field;
import java.lang.reflect.Member;
import java.lang.reflect.Method;
import java.lang.reflect.Modifier;
import java.util.Arrays;
import java.util.HashSet;
import java.util.Set;
import java.util.TreeSet;

/** The public face, and what LANGUAGE.md rules 1, 2, 5 and 11 say of members. */
final class FaceTest {
    private static final String[] FACE = {
        "void setBase(int,int,int,int) throws IllegalArgumentException,IllegalStateException",
        "int buy(int,int) throws IllegalArgumentException,IllegalStateException",
        "int job(int,int,int,int,int) throws IllegalArgumentException,IllegalStateException",
        "int recipe(int,int) throws IndexOutOfBoundsException,IllegalArgumentException,"
            + "IllegalStateException",
        "int mix(int) throws IndexOutOfBoundsException,IllegalStateException",
        "int print(int,int,boolean) throws IndexOutOfBoundsException,IllegalArgumentException,"
            + "IllegalStateException",
        "int pass(int) throws IllegalArgumentException,IllegalStateException",
        "int state(int) throws IndexOutOfBoundsException",
        "int tins() throws ",
        "int inTin(int,int) throws IndexOutOfBoundsException,IllegalArgumentException",
        "int shade(int,int) throws IndexOutOfBoundsException,IllegalArgumentException,"
            + "IllegalStateException",
        "int where(int,int) throws IllegalArgumentException",
        "int washes() throws ",
        "int washesByAll() throws IllegalStateException",
        "int firstRun() throws ",
        "int wear() throws ",
        "int chipGap(int,int) throws IndexOutOfBoundsException,IllegalStateException",
    };

    private FaceTest() {
    }

    static void theFaceIsThatOfTheDocument() {
        Set<String> face = new TreeSet<>();
        for (Method method : InkKitchen.class.getDeclaredMethods()) {
            if (isSeen(method)) {
                face.add(signature(method));
            }
        }
        Check.same("the face", new TreeSet<>(Arrays.asList(FACE)).toString(), face.toString());
    }

    static void theClassIsPublicAndFinalWithOneConstructor() {
        int modifiers = InkKitchen.class.getModifiers();
        Constructor<?>[] constructors = InkKitchen.class.getDeclaredConstructors();
        ask("public final class", Modifier.isPublic(modifiers) && Modifier.isFinal(modifiers));
        ask("one constructor", constructors.length == 1);
        ask("public InkKitchen()", Modifier.isPublic(constructors[0].getModifiers())
                && constructors[0].getParameterCount() == 0);
    }

    static void noFieldIsSeen() {
        for (Field field : InkKitchen.class.getDeclaredFields()) {
            ask("private " + field.getName(), !isSeen(field));
        }
    }

    static void noPrivateMethodBearsAPublicName() {
        Set<String> names = new HashSet<>();
        for (Method method : InkKitchen.class.getDeclaredMethods()) {
            if (isSeen(method)) {
                names.add(method.getName());
            }
        }
        for (Class<?> owner : InkKitchen.class.getNestMembers()) {
            for (Method method : owner.getDeclaredMethods()) {
                boolean isOfFace = owner == InkKitchen.class && isSeen(method);
                ask("another name than " + method, isOfFace || !names.contains(method.getName()));
            }
        }
    }

    static void classesInsideAreFewStaticAndNotPublic() {
        Class<?>[] inside = InkKitchen.class.getDeclaredClasses();
        ask("twelve classes at most", inside.length <= 11);
        for (Class<?> one : inside) {
            int modifiers = one.getModifiers();
            ask("static " + one, Modifier.isStatic(modifiers));
            ask("not public " + one,
                    !Modifier.isPublic(modifiers) && !Modifier.isProtected(modifiers));
        }
    }

    static void membersAreFewAndStaticFieldsFinal() {
        for (Class<?> owner : InkKitchen.class.getNestMembers()) {
            int kept = 0;
            for (Field field : owner.getDeclaredFields()) {
                boolean isStatic = Modifier.isStatic(field.getModifiers());
                ask("final " + field, !isStatic || Modifier.isFinal(field.getModifiers()));
                kept += isStatic ? 0 : 1;
            }
            ask("twenty fields at most in " + owner, kept <= 20);
            for (Method method : owner.getDeclaredMethods()) {
                ask("seven parameters at most in " + method, method.getParameterCount() <= 7);
            }
        }
    }

    private static boolean isSeen(Member member) {
        return !Modifier.isPrivate(member.getModifiers());
    }

    private static String signature(Method method) {
        StringBuilder text = new StringBuilder();
        text.append(method.getReturnType()).append(' ').append(method.getName());
        text.append('(').append(names(method.getParameterTypes())).append(") throws ");
        return text.append(names(method.getExceptionTypes())).toString();
    }

    private static String names(Class<?>[] types) {
        return String.join(",",
                Arrays.stream(types).map(Class::getSimpleName).toArray(String[]::new));
    }

    private static void ask(String what, boolean holds) {
        Check.same(what, "true", Boolean.toString(holds));
    }
}
