import java.util.Objects;

/** Compares answers with those that are due, and ends a test with exit code 1 if one was wrong. */
final class Check {
    interface Call {
        Object run();
    }

    static final String ARGUMENT = "throws IllegalArgumentException";
    static final String STATE = "throws IllegalStateException";
    static final String INDEX = "throws IndexOutOfBoundsException";
    static final String ELEMENT = "throws NoSuchElementException";
    static final String UNSUPPORTED = "throws UnsupportedOperationException";

    private static String about = "";
    private static int wrong = 0;
    private static int checked = 0;

    private Check() {
    }

    /** What the following answers are about. */
    static void about(String what) {
        about = what;
    }

    static void due(String what, Object got, Object want) {
        checked++;
        if (!Objects.equals(got, want)) {
            wrong++;
            System.out.println(about + what + " answered " + got + ", due is " + want);
        }
    }

    static void due(String what, Call call, Object want) {
        due(what, answer(call), want);
    }

    /** The answer of a call, or the name of the exception that it throws. */
    static Object answer(Call call) {
        try {
            return call.run();
        } catch (RuntimeException e) {
            return "throws " + e.getClass().getSimpleName();
        }
    }

    static int checked() {
        return checked;
    }

    static void finish(String test) {
        System.out.println(test + ": " + checked + " answers, " + wrong + " of them wrong");
        if (wrong != 0) {
            System.exit(1);
        }
    }
}
