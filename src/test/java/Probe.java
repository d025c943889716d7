import java.util.List;
import java.util.function.Function;

/**
 * What later calls tell of an object, also of what cannot be asked for without changing it. Each probe is for an
 * object of its own.
 */
final class Probe {
    /** All but what is told of texts. */
    static final List<Function<Subject, String>> BESIDE_TEXTS = List.of(Probe::machine, Probe::steps, Probe::analysis,
            Probe::goals, Probe::snapshot);
    static final List<Function<Subject, String>> ALL = List.of(Probe::machine, Probe::steps, Probe::analysis, Probe::goals,
            Probe::snapshot, Probe::room, Probe::text);

    private Probe() {
    }

    private static String machine(Subject x) {
        return "transitions " + Look.machine(x) + ", enabled " + x.enabled(false) + " " + x.enabled(true);
    }

    private static String steps(Subject x) {
        StringBuilder seen = new StringBuilder("steps ").append(x.increase()).append(' ').append(Look.config(x));
        for (Object kind = undone(x); kind instanceof Integer; kind = undone(x)) {
            seen.append(' ').append(kind).append(' ').append(Look.config(x));
        }
        return seen.toString();
    }

    private static Object undone(Subject x) {
        return Check.answer(() -> x.undo());
    }

    private static String analysis(Subject x) {
        return "bases " + Look.bases(x) + ", distance " + Check.answer(() -> x.distance()) + ", covering "
                + Check.answer(() -> x.covering(0));
    }

    private static String goals(Subject x) {
        return "goals " + x.clearGoals();
    }

    /** How many characters fit into the text buffer still, and what is told of an earlier text. */
    static String room(Subject x) {
        int room = 0;
        while (room <= 80 && "append".equals(Check.answer(() -> x.append('a')))) {
            room++;
        }
        return "room " + room + ", fault " + x.faultPosition();
    }

    /** What is read if the text in the buffer is ended as a command that adds a transition. */
    static String text(Subject x) {
        Check.answer(() -> x.append('1'));
        Check.answer(() -> x.append(')'));
        Check.answer(() -> x.append(';'));
        return "read " + Check.answer(() -> x.read()) + ", fault " + x.faultPosition() + ", transitions "
                + Look.machine(x);
    }

    private static String snapshot(Subject x) {
        return "snapshot " + Check.answer(() -> x.restore()) + " " + Look.machine(x) + " | " + Look.config(x) + " | "
                + x.clearGoals();
    }
}
