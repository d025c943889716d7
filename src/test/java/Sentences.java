import java.util.Map;
import java.util.Set;
import java.util.TreeMap;
import java.util.TreeSet;

/**
 * What the tests of single sentences have in common. Each test names the sentence that it holds by the place where
 * it stands, a promise or a paragraph of the description, and by its words.
 */
abstract class Sentences {
    static final String ARGUMENT = Check.ARGUMENT;
    static final String STATE = Check.STATE;
    static final String INDEX = Check.INDEX;
    static final String ELEMENT = Check.ELEMENT;
    static final String UNSUPPORTED = Check.UNSUPPORTED;

    private static final Map<String, Set<String>> HELD = new TreeMap<>();

    static void holds(String place, String sentence, Runnable test) {
        HELD.computeIfAbsent(place, p -> new TreeSet<>()).add(sentence);
        Check.about(place + ", \"" + sentence + "\": ");
        int before = Check.checked();
        Check.due("the test", () -> {
            test.run();
            return "has ended";
        }, "has ended");
        Check.due("the test checks something", Check.checked() > before + 1, true);
        Check.about("");
    }

    static boolean isHeld(String place, String sentence) {
        return HELD.getOrDefault(place, Set.of()).contains(sentence);
    }

    static Map<String, Set<String>> held() {
        return HELD;
    }

    static void due(String what, Object got, Object want) {
        Check.due(what, got, want);
    }

    static void due(String what, Check.Call call, Object want) {
        Check.due(what, call, want);
    }

    /** The configuration with its steps: all of them are forgotten. */
    static void dueForgotten(String what, Subject x) {
        due(what + ": increase", x.increase(), -1);
        due(what + ": undo", () -> x.undo(), STATE);
    }
}
