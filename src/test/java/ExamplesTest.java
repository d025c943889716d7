/** The examples of the document and of README.md, call by call. */
public final class ExamplesTest {
    public static void main(String[] args) {
        machine();
        words();
        exceptions();
        readme();
        Check.finish("ExamplesTest");
    }

    private static void machine() {
        Subject x = new Subject();
        Check.due("addTransition 0", () -> x.addTransition(0, 1, 1, 0, 0), 0);
        Check.due("addTransition 1", () -> x.addTransition(1, 0, 1, 0, 1), 1);
        Check.due("addTransition 2", () -> x.addTransition(0, 2, 2, 0, 1), 2);
        Check.due("addTransition 3", () -> x.addTransition(2, 3, 2, 0, 0), 3);
        Check.due("setState(3)", () -> x.setState(3), 0);
        Check.due("addGoal()", () -> x.addGoal(), 1);
        Check.due("setState(0)", () -> x.setState(0), 3);
        Check.due("lastRound()", () -> x.lastRound(), 6);
        Check.due("basisSize(1)", () -> x.basisSize(1), 2);
        Check.due("basisLetter(1, 0, 0)", () -> x.basisLetter(1, 0, 0), Check.INDEX);
        Check.due("coveringStates()", () -> x.coveringStates(), 11);
        Check.due("least(2)", () -> x.least(2), 1);
        Check.due("distance()", () -> x.distance(), 6);
        Check.due("covering(0)", () -> x.covering(0), 0);
        Check.due("lost(2)", () -> x.lost(2), 0);
        Check.due("statesAfter(4)", () -> x.statesAfter(4), 1);
    }

    private static void words() {
        Subject x = new Subject();
        Check.due("put(0, 0)", () -> x.put(0, 0), 1);
        Check.due("put(0, 1)", () -> x.put(0, 1), 2);
        Check.due("put(1, 0)", () -> x.put(1, 0), 1);
        Check.due("put(1, 1)", () -> x.put(1, 1), 2);
        Check.due("put(1, 1) again", () -> x.put(1, 1), 3);
        Check.due("isBelow(0)", () -> x.isBelow(0), true);
        Check.due("embeddings(0)", () -> x.embeddings(0), 2);
        Check.due("common()", () -> x.common(), 2);
        Check.due("subwords(1)", () -> x.subwords(1), 6);
        Check.due("addTransition", () -> x.addTransition(0, 0, 1, 0, 2), 0);
        Check.due("fire(0)", () -> x.fire(0), 0);
        Check.due("lose(0, 1)", () -> x.lose(0, 1), 1);
        Check.due("increase()", () -> x.increase(), 1);
        Check.due("undo()", () -> x.undo(), 1);
        Check.due("length(0)", () -> x.length(0), 3);
    }

    private static void exceptions() {
        Subject x = new Subject();
        Check.due("distance()", () -> x.distance(), Check.UNSUPPORTED);
        Check.due("read()", () -> x.read(), Check.ARGUMENT);
        Check.due("faultPosition()", () -> x.faultPosition(), 0);
        Check.due("fire(0)", () -> x.fire(0), Check.INDEX);
        Check.due("undo()", () -> x.undo(), Check.STATE);
        Check.due("addGoal()", () -> x.addGoal(), 1);
        Check.due("analyze()", () -> x.analyze(), 1);
        Check.due("basisSize(1)", () -> x.basisSize(1), Check.INDEX);
    }

    private static void readme() {
        Subject x = Make.text("send(0,1,0,a);recv(1,2,0,a);goal(2,,);");
        Check.due("read()", () -> x.read(), 3);
        Check.due("analyze()", () -> x.analyze(), 1);
        Check.due("coveringStates()", () -> x.coveringStates(), 5);
        Check.due("distance()", () -> x.distance(), 2);
        Check.due("covering(0)", () -> x.covering(0), 0);
        Check.due("lost(0)", () -> x.lost(0), 0);
        Check.due("covering(2)", () -> x.covering(2), Check.ELEMENT);
        Check.due("fire(0)", () -> x.fire(0), 1);
        Check.due("undo()", () -> x.undo(), 0);
    }
}
