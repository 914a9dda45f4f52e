import java.util.Objects;

/** What the tests of the project share: told answers, told exceptions, and an exit code at the end. */
final class Checks {
    static final Class<?> ILLEGAL_ARGUMENT = IllegalArgumentException.class;
    static final Class<?> ILLEGAL_STATE = IllegalStateException.class;
    static final Class<?> NO_SUCH_ELEMENT = java.util.NoSuchElementException.class;
    static final Class<?> ARITHMETIC = ArithmeticException.class;
    static final Class<?> UNSUPPORTED = UnsupportedOperationException.class;

    interface Call {
        long answer();
    }

    private static int made = 0;
    private static int wrong = 0;
    private static String part = "";

    private Checks() {
    }

    static void part(String name) {
        part = name;
    }

    /** Runs the test of one sentence of the document; an exception that it does not await is a wrong answer, too. */
    static void sentence(String words, Runnable test) {
        part(words);
        int madeBefore = made;
        try {
            test.run();
        } catch (RuntimeException e) {
            dueText("the test was stopped by", e.toString(), "nothing");
        }
        if (made == madeBefore) {
            dueText("the test", "no check", "at least one");
        }
    }

    static void due(String call, long got, long want) {
        dueText(call, Long.toString(got), Long.toString(want));
    }

    static void dueText(String call, String got, String want) {
        made++;
        if (!Objects.equals(got, want)) {
            wrong++;
            System.out.println(part + ": " + call + " answered " + got + ", due is " + want);
        }
    }

    static void dueThrows(String call, Class<?> want, Call made) {
        dueText(call, outcome(made), "throws." + want.getSimpleName());
    }

    /** The answer of a call, or the exact class of what it throws. */
    static String outcome(Call call) {
        try {
            return Long.toString(call.answer());
        } catch (RuntimeException e) {
            return "throws." + e.getClass().getSimpleName();
        }
    }

    static void end() {
        System.out.println(made + " checks, " + wrong + " wrong");
        if (wrong != 0) {
            System.exit(1);
        }
    }
}
