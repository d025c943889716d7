import java.util.function.Function;

/** A part of what an object holds, as later calls tell it. A probe may change its object. */
enum Probe {
    MACHINE(Look::machine),
    PRESENT(Look::config),
    STEPS(Probe::steps),
    GOALS(x -> "" + x.clearGoals()),
    BASES(Look::bases),
    SNAPSHOT(Probe::snapshot),
    ROOM(Probe::room),
    TEXT(Probe::text),
    FAULT(x -> "" + x.faultPosition());

    private final Function<Subject, String> question;

    Probe(Function<Subject, String> question) {
        this.question = question;
    }

    String of(Subject x) {
        return this + " " + question.apply(x);
    }

    /** The kinds of the steps, from the latest one on, and the configurations before them. */
    private static String steps(Subject x) {
        StringBuilder seen = new StringBuilder();
        for (Object kind = undone(x); kind instanceof Integer; kind = undone(x)) {
            seen.append(kind).append(' ').append(Look.config(x)).append(' ');
        }
        return seen.toString();
    }

    private static Object undone(Subject x) {
        return Check.answer(() -> x.undo());
    }

    private static String snapshot(Subject x) {
        return Check.answer(() -> x.restore()) + " " + Look.machine(x) + " | " + Look.config(x) + " | " + Look.bases(x) + " | "
                + x.clearGoals();
    }

    /** How many characters fit into the text buffer still. */
    private static String room(Subject x) {
        int room = 0;
        while (room <= 80 && "append".equals(Check.answer(() -> x.append('a')))) {
            room++;
        }
        return "" + room;
    }

    /** What is read if the text in the buffer is ended as a command that adds a transition. */
    private static String text(Subject x) {
        if (x.transitionCount() == 10) {
            x.removeTransition(9);
        }
        for (char c : "1);".toCharArray()) {
            Check.answer(() -> x.append(c));
        }
        Object read = Check.answer(() -> x.read());
        int last = x.transitionCount() - 1;
        return read + " " + x.faultPosition() + " " + Check.answer(() -> x.transition(last, 0) + " " + x.transition(last, 1));
    }
}
