import java.util.Objects;

/** Compares answers with those that are due, and ends a test with exit code 1 if one was wrong. */
final class Check {
    interface Call {
        Object run();
    }

    private static int wrong = 0;
    private static int checked = 0;

    private Check() {
    }

    static void due(String what, Object got, Object want) {
        checked++;
        if (!Objects.equals(got, want)) {
            wrong++;
            System.out.println(what + " answered " + got + ", due is " + want);
        }
    }

    static void due(String what, Call call, Object want) {
        due(what, answer(call), want);
    }

    /** The answer of a call, or the name of the exception that it throws. */
    static Object answer(Call call) {
        try {
            return call.run();
        } catch (RuntimeException e) {
            return "throws " + e.getClass().getSimpleName();
        }
    }

    /** A call that throws leaves everything that can be seen as it was. */
    static void refused(LossyChannels x, String what, String exception, Call call) {
        String before = Look.at(x);
        due(what, call, "throws " + exception);
        due(what + " and the state behind it", Look.at(x), before);
    }

    static void finish(String test) {
        System.out.println(test + ": " + checked + " answers, " + wrong + " of them wrong");
        if (wrong != 0) {
            System.exit(1);
        }
    }
}
