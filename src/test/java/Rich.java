/** Objects that have something of everything that a call could spoil. */
final class Rich {
    private Rich() {
    }

    /**
     * Three transitions, two goals, three steps, a fault at 5, the beginning of a text, and a snapshot that differs from
     * all that. The state is 2 and the words are ab and c, which covers a goal; the last round is 4.
     */
    static Subject rich() {
        Subject x = Make.machine("send(0,1,0,b) recv(1,2,1,a) goal(2,b,)", 3, "cc", "c");
        x.save();
        x.addGoal();
        addSteps(x);
        return x;
    }

    static Subject withoutSnapshot() {
        Subject x = Make.machine("send(0,1,0,b) recv(1,2,1,a) goal(2,b,)", 3, "cc", "c");
        x.addGoal();
        addSteps(x);
        return x;
    }

    private static void addSteps(Subject x) {
        x.addTransition(2, 0, 0, 0, 0);
        Make.append(x, "move(9");
        Check.answer(() -> x.read());
        Make.append(x, "move(0,");
        Make.present(x, 0, "a", "bac");
        x.fire(0);
        x.lose(1, 0);
        x.fire(1);
    }

    /** One firing before a goal. */
    static Subject oneFiring() {
        Subject x = rich();
        x.undo();
        return x;
    }

    static Subject emptyChannel() {
        Subject x = rich();
        x.lose(1, 0);
        return x;
    }

    static Subject withoutGoals() {
        Subject x = rich();
        x.clearGoals();
        return x;
    }

    static Subject withoutSteps() {
        Subject x = rich();
        x.setState(2);
        return x;
    }

    static Subject tenTransitions() {
        Subject x = rich();
        for (int t = 3; t < 10; t++) {
            x.addTransition(t % 6, 5, 2, 0, 0);
        }
        return x;
    }

    static Subject threeGoals() {
        Subject x = rich();
        x.addGoal();
        return x;
    }

    /** Ten letters in channel 0, the last one sent, and transition 3, which would send another one. */
    static Subject fullChannel() {
        Subject x = rich();
        x.addTransition(1, 1, 1, 0, 0);
        Make.present(x, 0, "aaaaaaaaa", "ba");
        x.fire(0);
        x.lose(1, 0);
        return x;
    }

    static Subject fullBuffer() {
        return Make.append(rich(), "z".repeat(73));
    }

    /** Its analysis is given up, as it takes too many rounds. */
    static Subject givenUp() {
        Subject x = Make.machine(Machines.THIRTEEN);
        x.save();
        addSteps(x);
        return x;
    }

    /** Its analysis is given up, as a basis is too great. */
    static Subject tooGreat() {
        Subject x = Make.machine(Machines.THIRTY_ONE_BETWEEN, 0, "b", "");
        x.save();
        x.lose(0, 0);
        return x;
    }
}
