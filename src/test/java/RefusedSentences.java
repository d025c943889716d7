import java.util.function.Function;
import java.util.function.Supplier;

/** Refused calls: the paragraph on exceptions, and each exception that a promise names. */
final class RefusedSentences extends Sentences {
    private static final int MIN = Integer.MIN_VALUE;
    private static final int MAX = Integer.MAX_VALUE;
    private static final int[] NO_STATES = {-1, 6, MIN, MAX};
    private static final int[] NO_CHANNELS = {-1, 2, MIN, MAX};
    private static final int[] NO_LETTERS = {-1, 3, MIN, MAX};
    private static final int[] NO_ACTIONS = {-1, 3, MIN, MAX};
    /** The object to be refused has three transitions. */
    private static final int[] NO_TRANSITIONS = {-1, 3, MIN, MAX};

    private static final String NO_TRANSITION = "Throws IndexOutOfBoundsException if there is no such transition";
    private static final String NO_CHANNEL = "Throws IndexOutOfBoundsException if there is no such channel";
    private static final String NO_GOAL = "Throws UnsupportedOperationException if there is no goal";
    private static final String GIVEN_UP = "Throws IllegalStateException if the analysis is given up";

    private RefusedSentences() {
    }

    static void run() {
        unchanged();
        firstCondition();
        firstConditionOfAnalysis();
        transitions();
        newTransitions();
        present();
        letters();
        steps();
        words();
        goals();
        analysis();
        bases();
        runs();
        texts();
        reading();
        snapshots();
    }

    /** The call throws, and later calls answer as if it had not been made. */
    private static void refused(String what, Supplier<Subject> made, String exception, Function<Subject, Object> call) {
        for (Probe probe : Probe.values()) {
            Subject x = made.get();
            due(what, () -> call.apply(x), exception);
            due(what + ", and what is there behind it", probe.of(x), probe.of(made.get()));
        }
    }

    // The paragraph on exceptions

    private static void unchanged() {
        holds("Exceptions", "A call that throws an exception leaves the state unchanged, unless stated otherwise.", () -> {
            for (Probe probe : Probe.values()) {
                Subject x = Rich.rich();
                due("many refused calls", refuseMany(x), 24);
                due("all is as it was", probe.of(x), probe.of(Rich.rich()));
            }
        });
        holds("Exceptions", "A call that throws an exception leaves the state unchanged, unless stated otherwise.", () -> {
            for (Probe probe : Probe.values()) {
                Subject x = Rich.givenUp();
                int refused = 0;
                for (Check.Call call : analysisCalls(x, 0)) {
                    refused += STATE.equals(Check.answer(call)) ? 1 : 0;
                }
                due("refused calls, as the analysis is given up", refused, 9);
                due("all is as it was", probe.of(x), probe.of(Rich.givenUp()));
            }
        });
    }

    private static Check.Call[] analysisCalls(Subject x, int argument) {
        return new Check.Call[] {() -> x.lastRound(), () -> x.basisSize(argument), () -> x.basis(argument, argument, argument),
            () -> x.basisLetter(argument, argument, argument), () -> x.coveringStates(), () -> x.least(argument),
            () -> x.distance(), () -> x.covering(argument), () -> x.lost(argument)};
    }

    /** Calls that one and the same object refuses; returns how many it has refused. */
    private static int refuseMany(Subject x) {
        Check.Call[] calls = {() -> x.addTransition(6, 0, 0, 0, 0), () -> x.addTransition(0, 0, 1, 2, 0),
            () -> x.removeTransition(3), () -> x.transition(3, 0), () -> x.transition(0, 5), () -> x.setState(6),
            () -> x.put(2, 0), () -> x.put(0, 3), () -> x.clear(2), () -> x.length(2), () -> x.letter(0, 2), () -> x.fire(3),
            () -> x.fire(0), () -> x.lose(1, 1), () -> x.isBelow(2), () -> x.embeddings(2), () -> x.subwords(2),
            () -> x.basisSize(5), () -> x.basis(0, 0, 3), () -> x.basisLetter(0, 2, 0), () -> x.least(6), () -> x.covering(0),
            () -> x.statesAfter(5), () -> x.isLast(0, 5)};
        int refused = 0;
        for (Check.Call call : calls) {
            refused += Check.answer(call) instanceof String ? 1 : 0;
        }
        return refused;
    }

    private static void firstCondition() {
        String sentence = "If several conditions of a method are fulfilled, the one that is listed first determines the exception.";
        holds("Exceptions", sentence, () -> {
            refused("promise 2, addTransition: wrong, and ten", Rich::tenTransitions, ARGUMENT,
                    x -> x.addTransition(0, 6, 0, 0, 0));
            refused("promise 2, addTransition: wrong letter, and ten", Rich::tenTransitions, ARGUMENT,
                    x -> x.addTransition(0, 0, 2, 1, 3));
            refused("promise 4, transition: both wrong", Rich::rich, INDEX, x -> x.transition(3, 5));
            refused("promise 4, transition: both below 0", Rich::rich, INDEX, x -> x.transition(-1, -1));
            refused("promise 7, put: no channel and no letter", Rich::rich, INDEX, x -> x.put(2, 3));
            refused("promise 7, put: below 0", Rich::rich, INDEX, x -> x.put(-1, -1));
            refused("promise 7, put: no letter into a full channel", Rich::fullChannel, ARGUMENT, x -> x.put(0, 3));
            refused("promise 7, put: no channel while one is full", Rich::fullChannel, INDEX, x -> x.put(2, 0));
            refused("promise 11, letter: no channel", Rich::rich, INDEX, x -> x.letter(2, 10));
            refused("promise 11, letter: below 0", Rich::rich, INDEX, x -> x.letter(-1, -1));
            refused("promise 14, lose: no channel", Rich::rich, INDEX, x -> x.lose(2, 10));
            refused("promise 14, lose: below 0", Rich::rich, INDEX, x -> x.lose(-1, -1));
            refused("promise 34, isLast: both wrong", Rich::rich, INDEX, x -> x.isLast(3, 5));
            refused("promise 34, isLast: both low", Rich::rich, INDEX, x -> x.isLast(-1, 0));
        });
        holds("Exceptions", sentence, () -> {
            Subject x = Rich.tenTransitions();
            x.addGoal();
            for (String text : new String[] {"1);send(0,0,0,a)", "1);goal(0,,);move(0,1);:"}) {
                Make.append(x, text);
                due("promise 36, read: a fault behind too many", () -> x.read(), ARGUMENT);
                Make.append(x, "move(0,");
            }
            due("nothing was carried out", x.transitionCount() + " " + x.clearGoals(), "10 3");
        });
    }

    private static void firstConditionOfAnalysis() {
        String sentence = "If several conditions of a method are fulfilled, the one that is listed first determines the exception.";
        holds("Exceptions", sentence, () -> {
            for (int wrong : new int[] {-1, 31}) {
                Subject x = Rich.withoutGoals();
                for (Check.Call call : analysisCalls(x, wrong)) {
                    due("promises 24 to 32: no goal, with " + wrong, call, UNSUPPORTED);
                }
                Subject y = Rich.givenUp();
                for (Check.Call call : analysisCalls(y, wrong)) {
                    due("promises 24 to 32: given up, with " + wrong, call, STATE);
                }
                Subject z = Rich.tooGreat();
                for (Check.Call call : analysisCalls(z, wrong)) {
                    due("promises 24 to 32: a basis is too great, with " + wrong, call, STATE);
                }
                Subject w = Rich.givenUp();
                w.clearGoals();
                for (Check.Call call : analysisCalls(w, wrong)) {
                    due("promises 24 to 32: no goal any more, with " + wrong, call, UNSUPPORTED);
                }
            }
        });
        holds("Exceptions", "Sets of states and of transitions are bit masks, bit k for state or transition k.", () -> {
            for (int k = 0; k < 10; k++) {
                Subject x = new Subject();
                for (int t = 0; t < 10; t++) {
                    x.addTransition(t == k ? 1 : 0, 0, 0, 0, 0);
                }
                x.setState(1);
                due("transition " + k, x.enabled(false), 1 << k);
            }
            for (int k = 0; k < 6; k++) {
                Subject x = Make.machine("move(" + k + "," + (5 - k) + ")");
                x.setState(k);
                due("state " + k, x.statesAfter(0), 1 << k);
                due("the state behind " + k, x.statesAfter(1), 1 << (5 - k));
                x.addGoal();
                due("covering state " + k, x.coveringStates(), 1 << k);
            }
        });
    }

    // The exceptions of each promise

    private static void newTransitions() {
        String outOfRange = "Throws IllegalArgumentException if an argument that is not ignored is out of range";
        holds("Promise 2", outOfRange, () -> {
            for (int wrong : NO_STATES) {
                refused("old state " + wrong, Rich::rich, ARGUMENT, x -> x.addTransition(wrong, 0, 0, 0, 0));
                refused("new state " + wrong, Rich::rich, ARGUMENT, x -> x.addTransition(0, wrong, 1, 0, 0));
            }
            for (int wrong : NO_ACTIONS) {
                refused("action " + wrong, Rich::rich, ARGUMENT, x -> x.addTransition(0, 0, wrong, 0, 0));
            }
        });
        holds("Promise 2", outOfRange, () -> {
            for (int action = 1; action <= 2; action++) {
                int a = action;
                for (int wrong : NO_CHANNELS) {
                    refused("channel " + wrong, Rich::rich, ARGUMENT, x -> x.addTransition(0, 0, a, wrong, 0));
                }
                for (int wrong : NO_LETTERS) {
                    refused("letter " + wrong, Rich::rich, ARGUMENT, x -> x.addTransition(0, 0, a, 0, wrong));
                }
            }
        });
        holds("Promise 2", "Throws IllegalStateException if there are 10 transitions", () -> {
            refused("an eleventh", Rich::tenTransitions, STATE, x -> x.addTransition(0, 0, 0, 0, 0));
            refused("an eleventh, ignored arguments", Rich::tenTransitions, STATE,
                    x -> x.addTransition(5, 5, 0, -1, 3));
            refused("an eleventh that sends", Rich::tenTransitions, STATE, x -> x.addTransition(0, 0, 1, 1, 2));
            Subject x = Rich.tenTransitions();
            x.removeTransition(0);
            due("the tenth", x.addTransition(0, 0, 0, 0, 0), 9);
        });
    }

    private static void transitions() {
        holds("Promise 3", NO_TRANSITION, () -> {
            for (int wrong : NO_TRANSITIONS) {
                refused("transition " + wrong, Rich::rich, INDEX, x -> x.removeTransition(wrong));
            }
            refused("the eleventh", Rich::tenTransitions, INDEX, x -> x.removeTransition(10));
            refused("none", Subject::new, INDEX, x -> x.removeTransition(0));
        });
        holds("Promise 4", NO_TRANSITION, () -> {
            for (int wrong : NO_TRANSITIONS) {
                refused("transition " + wrong, Rich::rich, INDEX, x -> x.transition(wrong, 0));
            }
            refused("the eleventh", Rich::tenTransitions, INDEX, x -> x.transition(10, 4));
            refused("none", Subject::new, INDEX, x -> x.transition(0, 0));
        });
        holds("Promise 4", "Throws IllegalArgumentException if what is not from 0 to 4", () -> {
            for (int wrong : new int[] {-1, 5, MIN, MAX}) {
                refused("what " + wrong, Rich::rich, ARGUMENT, x -> x.transition(0, wrong));
                refused("what " + wrong + " of the last one", Rich::rich, ARGUMENT, x -> x.transition(2, wrong));
            }
        });
    }

    private static void present() {
        holds("Promise 6", "Throws IllegalArgumentException if there is no such state", () -> {
            for (int wrong : NO_STATES) {
                refused("state " + wrong, Rich::rich, ARGUMENT, x -> x.setState(wrong));
            }
        });
        holds("Promise 7", NO_CHANNEL, () -> {
            for (int wrong : NO_CHANNELS) {
                refused("channel " + wrong, Rich::rich, INDEX, x -> x.put(wrong, 0));
            }
        });
        holds("Promise 7", "Throws IllegalArgumentException if there is no such letter", () -> {
            for (int wrong : NO_LETTERS) {
                refused("letter " + wrong, Rich::rich, ARGUMENT, x -> x.put(0, wrong));
                refused("letter " + wrong + " into channel 1", Rich::rich, ARGUMENT, x -> x.put(1, wrong));
            }
        });
        holds("Promise 7", "Throws IllegalStateException if the channel has 10 letters", () -> {
            for (int letter = 0; letter < 3; letter++) {
                int l = letter;
                refused("letter " + letter, Rich::fullChannel, STATE, x -> x.put(0, l));
            }
            refused("channel 1", () -> Make.words("", "abcabcabca"), STATE, x -> x.put(1, 0));
            due("nine letters", Make.words("", "abcabcabc").put(1, 0), 10);
        });
        holds("Promise 8", NO_CHANNEL, () -> {
            for (int wrong : NO_CHANNELS) {
                refused("channel " + wrong, Rich::rich, INDEX, x -> x.clear(wrong));
            }
        });
    }

    private static void letters() {
        holds("Promise 10", NO_CHANNEL, () -> {
            for (int wrong : NO_CHANNELS) {
                refused("channel " + wrong, Rich::rich, INDEX, x -> x.length(wrong));
            }
        });
        holds("Promise 11", NO_CHANNEL, () -> {
            for (int wrong : NO_CHANNELS) {
                refused("channel " + wrong, Rich::rich, INDEX, x -> x.letter(wrong, 0));
            }
        });
        holds("Promise 11", "Throws NoSuchElementException if there is no such letter", () -> {
            for (int wrong : new int[] {-1, 2, 10, MIN, MAX}) {
                refused("index " + wrong, Rich::rich, ELEMENT, x -> x.letter(0, wrong));
            }
            refused("index 0 of an empty channel", Rich::emptyChannel, ELEMENT, x -> x.letter(1, 0));
            refused("index 10 of a full channel", Rich::fullChannel, ELEMENT, x -> x.letter(0, 10));
            refused("the other one is longer", () -> Make.words("abc", "a"), ELEMENT, x -> x.letter(1, 1));
        });
        holds("Promise 14", NO_CHANNEL, () -> {
            for (int wrong : NO_CHANNELS) {
                refused("channel " + wrong, Rich::rich, INDEX, x -> x.lose(wrong, 0));
            }
        });
        holds("Promise 14", "Throws NoSuchElementException if there is no such letter", () -> {
            for (int wrong : new int[] {-1, 2, 10, MIN, MAX}) {
                refused("index " + wrong, Rich::rich, ELEMENT, x -> x.lose(0, wrong));
            }
            refused("index 0 of an empty channel", Rich::emptyChannel, ELEMENT, x -> x.lose(1, 0));
            refused("index 10 of a full channel", Rich::fullChannel, ELEMENT, x -> x.lose(0, 10));
            refused("the other one is longer", () -> Make.words("abc", "a"), ELEMENT, x -> x.lose(1, 1));
        });
    }

    private static void steps() {
        holds("Promise 13", NO_TRANSITION, () -> {
            for (int wrong : NO_TRANSITIONS) {
                refused("transition " + wrong, Rich::rich, INDEX, x -> x.fire(wrong));
            }
            refused("the eleventh", Rich::tenTransitions, INDEX, x -> x.fire(10));
            refused("none", Subject::new, INDEX, x -> x.fire(0));
        });
        holds("Promise 13", "Throws IllegalStateException if it cannot fire, or the channel would have more than 10 letters", () -> {
            refused("another state", Rich::rich, STATE, x -> x.fire(0));
            refused("another state, receiving", Rich::rich, STATE, x -> x.fire(1));
            refused("no letter", () -> Make.machine("recv(0,0,0,a)"), STATE, x -> x.fire(0));
            refused("another letter first", () -> Make.machine("recv(0,0,0,a)", 0, "ba", "a"), STATE, x -> x.fire(0));
            refused("the letter in the other channel", () -> Make.machine("recv(0,0,1,a)", 0, "a", "b"), STATE, x -> x.fire(0));
            refused("an eleventh letter", Rich::fullChannel, STATE, x -> x.fire(3));
            refused("an eleventh letter in channel 1", () -> Make.machine("send(0,1,1,c)", 0, "", "bbbbbbbbbb"), STATE,
                    x -> x.fire(0));
            due("a tenth letter", Make.machine("send(0,1,1,c)", 0, "", "bbbbbbbbb").fire(0), 1);
        });
        holds("Promise 15", "Throws IllegalStateException if there is no step that can be undone", () -> {
            refused("a new object", Subject::new, STATE, x -> x.undo());
            refused("all forgotten", Rich::withoutSteps, STATE, x -> x.undo());
            Subject x = Rich.rich();
            due("three steps", "" + x.undo() + x.undo() + x.undo(), "010");
            due("all undone", () -> x.undo(), STATE);
            due("the first configuration stays", Look.config(x), "0/a/bac");
        });
    }

    private static void words() {
        holds("Promise 17", NO_CHANNEL, () -> {
            for (int wrong : NO_CHANNELS) {
                refused("channel " + wrong, Rich::rich, INDEX, x -> x.isBelow(wrong));
            }
        });
        holds("Promise 18", NO_CHANNEL, () -> {
            for (int wrong : NO_CHANNELS) {
                refused("channel " + wrong, Rich::rich, INDEX, x -> x.embeddings(wrong));
            }
        });
        holds("Promise 20", NO_CHANNEL, () -> {
            for (int wrong : NO_CHANNELS) {
                refused("channel " + wrong, Rich::rich, INDEX, x -> x.subwords(wrong));
            }
        });
    }

    private static void goals() {
        holds("Promise 21", "Throws IllegalStateException if there are 3 goals", () -> {
            refused("a fourth", Rich::threeGoals, STATE, x -> x.addGoal());
            Subject x = Rich.rich();
            due("the third", x.addGoal(), 3);
            Subject y = Make.machine("goal(0,,) goal(0,,) goal(0,,)");
            due("a fourth one that is equal to the others", () -> y.addGoal(), STATE);
            y.clearGoals();
            due("the first again", y.addGoal(), 1);
        });
    }

    private static void analysis() {
        holds("Promise 23", NO_GOAL, () -> {
            refused("goals removed", Rich::withoutGoals, UNSUPPORTED, x -> x.analyze());
            refused("a new object", Subject::new, UNSUPPORTED, x -> x.analyze());
            due("one goal", Make.machine("goal(0,,)").analyze(), 1);
            due("given up is no exception", Rich.givenUp().analyze(), 0);
        });
        noGoalOrGivenUp("Promise 24", x -> x.lastRound());
        noGoalOrGivenUp("Promise 25", x -> x.basisSize(0));
        noGoalOrGivenUp("Promise 26", x -> x.basis(0, 0, 0));
        noGoalOrGivenUp("Promise 27", x -> x.basisLetter(0, 0, 0));
        noGoalOrGivenUp("Promise 28", x -> x.coveringStates());
        noGoalOrGivenUp("Promise 29", x -> x.least(0));
        noGoalOrGivenUp("Promise 30", x -> x.distance());
        noGoalOrGivenUp("Promise 31", x -> x.covering(0));
        noGoalOrGivenUp("Promise 32", x -> x.lost(0));
    }

    private static void noGoalOrGivenUp(String promise, Function<Subject, Object> call) {
        holds(promise, NO_GOAL, () -> {
            refused("goals removed", Rich::withoutGoals, UNSUPPORTED, call);
            refused("a new object", Subject::new, UNSUPPORTED, call);
        });
        holds(promise, GIVEN_UP, () -> {
            refused("too many rounds", Rich::givenUp, STATE, call);
            refused("a basis is too great", Rich::tooGreat, STATE, call);
        });
    }

    private static void bases() {
        holds("Promise 25", "Throws IndexOutOfBoundsException if the round is not from 0 to the last round", () -> {
            for (int wrong : new int[] {-1, 5, 12, 13, MIN, MAX}) {
                refused("round " + wrong, Rich::rich, INDEX, x -> x.basisSize(wrong));
            }
            due("the last round", Rich.rich().basisSize(4), 6);
        });
        holds("Promise 26", "Throws IndexOutOfBoundsException if there is no such round or configuration, or what is not from 0 "
                + "to 2", () -> {
            for (int wrong : new int[] {-1, 5, 12, 13, MIN, MAX}) {
                refused("round " + wrong, Rich::rich, INDEX, x -> x.basis(wrong, 0, 0));
            }
            for (int wrong : new int[] {-1, 2, MIN, MAX}) {
                refused("configuration " + wrong, Rich::rich, INDEX, x -> x.basis(0, wrong, 0));
            }
            for (int wrong : new int[] {-1, 3, MIN, MAX}) {
                refused("what " + wrong, Rich::rich, INDEX, x -> x.basis(0, 0, wrong));
            }
            refused("configuration 6 of the last round", Rich::rich, INDEX, x -> x.basis(4, 6, 2));
            due("its last configuration", Rich.rich().basis(4, 5, 2), 1);
        });
        holds("Promise 27", "Throws IndexOutOfBoundsException if there is no such configuration, channel or place", () -> {
            due("the last basis", Look.lastBasis(Rich.rich()), "0//a 1//aa 1/b/a 2//a 2/b/ 3/cc/c");
            for (int wrong : new int[] {-1, 6, MIN, MAX}) {
                refused("configuration " + wrong, Rich::rich, INDEX, x -> x.basisLetter(wrong, 0, 0));
            }
            for (int wrong : NO_CHANNELS) {
                refused("channel " + wrong, Rich::rich, INDEX, x -> x.basisLetter(5, wrong, 0));
            }
            for (int wrong : new int[] {-1, 2, MIN, MAX}) {
                refused("place " + wrong, Rich::rich, INDEX, x -> x.basisLetter(5, 0, wrong));
            }
            refused("place 0 of an empty word", Rich::rich, INDEX, x -> x.basisLetter(0, 0, 0));
            due("the last place", Rich.rich().basisLetter(5, 0, 1), 2);
        });
        holds("Promise 29", "Throws IllegalArgumentException if there is no such state", () -> {
            for (int wrong : NO_STATES) {
                refused("state " + wrong, Rich::rich, ARGUMENT, x -> x.least(wrong));
            }
        });
    }

    private static void runs() {
        String noFiring = "Throws NoSuchElementException if there is no covering run or no such firing";
        holds("Promise 31", noFiring, () -> {
            for (int wrong : new int[] {-1, 1, 12, MIN, MAX}) {
                refused("index " + wrong + " of one firing", Rich::oneFiring, ELEMENT, x -> x.covering(wrong));
            }
            refused("index 0 of no firing", Rich::rich, ELEMENT, x -> x.covering(0));
            refused("index 0 of no run", () -> Make.machine("move(0,0) goal(1,,)"), ELEMENT, x -> x.covering(0));
            refused("index -1 of no run", () -> Make.machine("move(0,0) goal(1,,)"), ELEMENT, x -> x.covering(-1));
            due("index 0 of one firing", Rich.oneFiring().covering(0), 1);
        });
        holds("Promise 32", noFiring, () -> {
            for (int wrong : new int[] {-1, 1, 12, MIN, MAX}) {
                refused("index " + wrong + " of one firing", Rich::oneFiring, ELEMENT, x -> x.lost(wrong));
            }
            refused("index 0 of no firing", Rich::rich, ELEMENT, x -> x.lost(0));
            refused("index 0 of no run", () -> Make.machine("move(0,0) goal(1,,)"), ELEMENT, x -> x.lost(0));
            refused("index -1 of no run", () -> Make.machine("move(0,0) goal(1,,)"), ELEMENT, x -> x.lost(-1));
            due("index 0 of one firing", Rich.oneFiring().lost(0), 0);
        });
        holds("Promise 33", "Throws IllegalArgumentException if the number is out of range", () -> {
            for (int wrong : new int[] {-1, 5, MIN, MAX}) {
                refused("firings " + wrong, Rich::rich, ARGUMENT, x -> x.statesAfter(wrong));
            }
        });
        holds("Promise 34", NO_TRANSITION, () -> {
            for (int wrong : NO_TRANSITIONS) {
                refused("transition " + wrong, Rich::rich, INDEX, x -> x.isLast(wrong, 1));
            }
            refused("the eleventh", Rich::tenTransitions, INDEX, x -> x.isLast(10, 4));
            refused("none", Subject::new, INDEX, x -> x.isLast(0, 1));
        });
        holds("Promise 34", "Throws IllegalArgumentException if the number is out of range", () -> {
            for (int wrong : new int[] {-1, 0, 5, MIN, MAX}) {
                refused("firings " + wrong, Rich::rich, ARGUMENT, x -> x.isLast(0, wrong));
            }
        });
    }

    private static void texts() {
        holds("Promise 35", "Throws IllegalStateException if the buffer contains 80 characters", () -> {
            for (char c : new char[] {';', 'a', '\0', '\uffff'}) {
                refused("an eighty-first", Rich::fullBuffer, STATE, x -> x.append(c));
            }
            Subject x = Make.append(Rich.rich(), "z".repeat(72));
            due("the eightieth", x.append('z'), "append");
            due("the eighty-first", () -> x.append('z'), STATE);
        });
    }

    /** What is left behind a text that is refused: all but the text and its fault position. */
    private static void refusedText(String what, Supplier<Subject> made, String text, String exception, int fault) {
        for (Probe probe : Probe.values()) {
            Subject x = Make.append(made.get(), text);
            due(what, () -> x.read(), exception);
            if (probe == Probe.ROOM) {
                due(what + ", the text buffer", probe.of(x), "ROOM 80");
            } else if (probe == Probe.FAULT) {
                due(what + ", the fault position", probe.of(x), "FAULT " + fault);
            } else if (probe != Probe.TEXT) {
                due(what + ", and what is there behind it", probe.of(x), probe.of(made.get()));
            }
        }
    }

    private static void reading() {
        holds("Promise 36", "Throws IllegalArgumentException if the text has a fault", () -> {
            refusedText("an empty text", Subject::new, "", ARGUMENT, 0);
            refusedText("a text that ends too early", Rich::rich, "", ARGUMENT, 7);
            refusedText("a fault at the first character", Subject::new, "?move(0,1);", ARGUMENT, 0);
            refusedText("a fault at the last character", Rich::rich, "1);goal(0,,):", ARGUMENT, 19);
            refusedText("a fault behind commands", Rich::rich, "1);goal(0,,);send(0,1,0,a);z", ARGUMENT, 34);
            refusedText("eighty characters", Rich::rich, "1);" + "move(0,1);".repeat(6) + "move(0,1):", ARGUMENT, 79);
        });
        holds("Promise 36", "Throws IllegalStateException if there would be more than 10 transitions or 3 goals", () -> {
            refusedText("eleven transitions", Rich::tenTransitions, "1);", STATE, -1);
            refusedText("four goals", Rich::threeGoals, "1);goal(0,,);", STATE, -1);
            refusedText("four goals, the first one would be the third", Rich::rich, "1);goal(0,,);goal(0,,);", STATE, -1);
            refusedText("eleven transitions, eight of them new", Rich::rich, "1);" + "move(0,1);".repeat(7), STATE, -1);
            refusedText("five goals in a text", Subject::new, "goal(0,,);".repeat(5), STATE, -1);
            refusedText("eight goals in a text", Subject::new, "goal(0,,);".repeat(8), STATE, -1);
        });
        holds("Promise 36", "Throws IllegalStateException if there would be more than 10 transitions or 3 goals", () -> {
            Subject x = Make.append(Rich.rich(), "1);" + "move(0,1);".repeat(6));
            due("ten transitions, seven of them new", x.read(), 7);
            Make.append(x, "goal(0,,);");
            due("three goals", x.read(), 1);
            due("the fault position", x.faultPosition(), -1);
            Subject y = Make.text("goal(0,,);goal(0,,);goal(0,,);" + "move(0,0);".repeat(5));
            due("three goals in a text", y.read(), 8);
            Subject z = Rich.tenTransitions();
            due("a text for ten transitions", () -> Make.append(z, "1);").read(), STATE);
            due("goals alone", Make.append(z, "goal(0,,);").read(), 1);
            Subject w = Rich.threeGoals();
            due("transitions alone", Make.append(w, "1);recv(5,5,1,c);").read(), 2);
        });
    }

    private static void snapshots() {
        holds("Promise 39", "Throws IllegalStateException if there is no snapshot", () -> {
            refused("a new object", Subject::new, STATE, x -> x.restore());
            refused("steps and goals", Rich::withoutSnapshot, STATE, x -> x.restore());
            Subject x = Rich.withoutSnapshot();
            due("never saved", () -> x.restore(), STATE);
            due("never saved, again", () -> x.restore(), STATE);
            x.save();
            due("saved", x.restore(), "restore");
            due("kept", x.restore(), "restore");
        });
    }
}
