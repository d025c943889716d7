import java.util.EnumSet;
import java.util.Set;
import java.util.function.Function;
import java.util.function.Supplier;

/** Each call changes the parts of an object that the document says, and leaves the others as they were. */
public final class EffectsTest {
    private EffectsTest() {
    }

    public static void main(String[] args) {
        steps();
        machineAndGoals();
        texts();
        snapshots();
        questions();
        Check.finish("EffectsTest");
    }

    private static void changes(String what, Function<Subject, Object> call, Probe... parts) {
        changes(what, Rich::rich, call, parts);
    }

    private static void changes(String what, Supplier<Subject> made, Function<Subject, Object> call, Probe... parts) {
        Set<Probe> changed = EnumSet.noneOf(Probe.class);
        changed.addAll(Set.of(parts));
        for (Probe probe : Probe.values()) {
            Subject x = made.get();
            Object answer = Check.answer(() -> call.apply(x));
            Check.due(what + " is not refused", String.valueOf(answer).startsWith("throws"), false);
            String before = probe.of(made.get());
            String behind = probe.of(x);
            if (changed.contains(probe)) {
                Check.due(what + " changes " + before, behind.equals(before), false);
            } else {
                Check.due(what + " leaves", behind, before);
            }
        }
    }

    private static void steps() {
        changes("setState", x -> x.setState(4), Probe.PRESENT, Probe.STEPS);
        changes("put", x -> x.put(1, 2), Probe.PRESENT, Probe.STEPS);
        changes("clear", x -> x.clear(0), Probe.PRESENT, Probe.STEPS);
        changes("clear of an empty channel", Rich::emptyChannel, x -> x.clear(1), Probe.STEPS);
        changes("fire", x -> x.fire(2), Probe.PRESENT, Probe.STEPS);
        changes("lose", x -> x.lose(0, 1), Probe.PRESENT, Probe.STEPS);
        changes("undo", x -> x.undo(), Probe.PRESENT, Probe.STEPS);
    }

    private static void machineAndGoals() {
        changes("addTransition", x -> x.addTransition(4, 2, 0, 0, 0), Probe.MACHINE, Probe.BASES);
        changes("removeTransition", x -> x.removeTransition(0), Probe.MACHINE, Probe.BASES);
        changes("addGoal", x -> x.setState(5) + x.addGoal(), Probe.PRESENT, Probe.STEPS, Probe.GOALS, Probe.BASES);
        changes("addGoal of a covering configuration", x -> x.addGoal(), Probe.GOALS);
        changes("clearGoals", x -> x.clearGoals(), Probe.GOALS, Probe.BASES);
    }

    private static void texts() {
        changes("append", x -> x.append('1'), Probe.ROOM, Probe.TEXT);
        changes("read", x -> Make.append(x, "3);goal(5,,);").read(), Probe.MACHINE, Probe.GOALS, Probe.BASES, Probe.ROOM,
                Probe.TEXT, Probe.FAULT);
    }

    private static void snapshots() {
        changes("save", x -> x.save(), Probe.SNAPSHOT);
        changes("restore", x -> x.restore(), Probe.MACHINE, Probe.PRESENT, Probe.STEPS, Probe.GOALS, Probe.BASES);
    }

    private static void questions() {
        changes("transition", x -> x.transition(2, 3));
        changes("transitionCount", x -> x.transitionCount());
        changes("state", x -> x.state());
        changes("length", x -> x.length(0));
        changes("letter", x -> x.letter(0, 1));
        changes("enabled", x -> x.enabled(false));
        changes("enabled with losses", x -> x.enabled(true));
        changes("increase", x -> x.increase());
        changes("isBelow", x -> x.isBelow(1));
        changes("embeddings", x -> x.embeddings(1));
        changes("common", x -> x.common());
        changes("subwords", x -> x.subwords(0));
        changes("analyze", x -> x.analyze());
        changes("lastRound", x -> x.lastRound());
        changes("basisSize", x -> x.basisSize(4));
        changes("basis", x -> x.basis(4, 5, 1));
        changes("basisLetter", x -> x.basisLetter(5, 0, 1));
        changes("coveringStates", x -> x.coveringStates());
        changes("least", x -> x.least(0));
        changes("distance", x -> x.distance());
        changes("statesAfter", x -> x.statesAfter(4));
        changes("isLast", x -> x.isLast(2, 4));
        changes("faultPosition", x -> x.faultPosition());
        changes("an undone step", x -> x.fire(2) + x.undo());
        changes("covering", Rich::oneFiring, x -> x.covering(0));
        changes("lost", Rich::oneFiring, x -> x.lost(0));
    }
}
