/** What the tests ask of one call. */
final class Check {
    static final Class<IllegalArgumentException> ARGUMENT = IllegalArgumentException.class;
    static final Class<IllegalStateException> STATE = IllegalStateException.class;
    static final Class<IndexOutOfBoundsException> INDEX = IndexOutOfBoundsException.class;

    interface Call {
        int answer();
    }

    private Check() {
    }

    /** The answer as the issues write it: a number, or throws. and the name of the exception. */
    static String answerOf(Call call) {
        try {
            return Integer.toString(call.answer());
        } catch (RuntimeException e) {
            return thrown(e.getClass());
        }
    }

    static void due(int want, Call call) {
        same("the call", Integer.toString(want), answerOf(call));
    }

    /** The class must be this very one: a subclass would be thrown by the machine. */
    static void dueThrow(Class<? extends RuntimeException> want, Call call) {
        same("the call", thrown(want), answerOf(call));
    }

    static void same(String what, String want, String got) {
        if (!want.equals(got)) {
            throw new AssertionError(what + " answered " + got + ", due is " + want);
        }
    }

    private static String thrown(Class<?> exception) {
        return "throws." + exception.getSimpleName();
    }
}
