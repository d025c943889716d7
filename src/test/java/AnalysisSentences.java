/** Goals and their bases: the paragraphs on analysis and consequences, and promises 21 to 29. */
final class AnalysisSentences extends Sentences {
    private AnalysisSentences() {
    }

    static void run() {
        goals();
        firstBasis();
        nextBasis();
        predecessors();
        complete();
        givenUp();
        order();
        consequences();
        addGoal();
        clearGoals();
        analyze();
        lastRound();
        basisSize();
        basis();
        basisLetter();
        coveringStates();
        least();
    }

    private static void goals() {
        holds("Analysis", "There are at most 3 goals, which are configurations; two of them may be equal or below each "
                + "other.", () -> {
            Subject x = Make.words("ab", "");
            due("first", x.addGoal(), 1);
            due("an equal one", x.addGoal(), 2);
            x.put(0, 0);
            due("one above it", x.addGoal(), 3);
            due("a fourth", () -> x.addGoal(), STATE);
            Make.append(x, "goal(0,,);");
            due("a fourth by a text", () -> x.read(), STATE);
            due("removed", x.clearGoals(), 3);
        });
    }

    private static void firstBasis() {
        holds("Analysis", "The basis of round 0 consists of those goals, taken once each, that no other goal is below.", () -> {
            due("one", Look.lastBasis(Make.machine("goal(1,a,b)")), "1/a/b");
            due("three equal ones", Look.lastBasis(Make.machine("goal(1,a,b) goal(1,a,b) goal(1,a,b)")), "1/a/b");
            due("three, none below another", Look.lastBasis(Make.machine("goal(1,a,b) goal(1,b,a) goal(2,,)")),
                    "1/a/b 1/b/a 2//");
            due("one below both", Look.lastBasis(Make.machine("goal(1,ab,b) goal(1,a,bc) goal(1,a,b)")), "1/a/b");
            due("the first below the others", Look.lastBasis(Make.machine("goal(1,a,) goal(1,a,bc) goal(1,ab,b)")), "1/a/");
            due("one above two others", Look.lastBasis(Make.machine("goal(1,a,) goal(1,ab,b) goal(1,,b)")), "1//b 1/a/");
            due("a chain", Look.lastBasis(Make.machine("goal(0,abc,) goal(0,ab,) goal(0,b,)")), "0/b/");
            due("ten letters", Look.lastBasis(Make.machine("goal(0,aaaaaaaaaa,cccccccccc) goal(0,aaaaaaaaa,cccccccccc)")),
                    "0/aaaaaaaaa/cccccccccc");
        });
        holds("In doubt", "Of equal goals one stays in the basis.", () -> {
            Subject x = Make.machine("goal(3,ab,c) goal(3,ab,c)");
            due("of two", x.basisSize(0), 1);
            x.addGoal();
            due("with another one", Look.lastBasis(x), "0// 3/ab/c");
            Subject y = Make.text("goal(3,ab,c);goal(3,ab,c);goal(3,ab,c);");
            y.read();
            due("of three", Look.lastBasis(y), "3/ab/c");
        });
    }

    private static void nextBasis() {
        String sentence = "The basis of round k + 1 consists of the minimal ones of the following configurations, where "
                + "minimal means that no other one is below: all configurations of the basis of round k and, for each "
                + "transition and each configuration of the basis of round k whose state is the new state of the "
                + "transition, a predecessor.";
        holds("Analysis", sentence, () -> {
            due("no transition", Look.bases(Make.machine("goal(0,ab,c)")), "0: 0 2 1; 0/ab/c");
            due("no transition to its state", Look.bases(Make.machine("move(0,1) goal(0,a,)")), "0: 0 1 0; 0/a/");
            due("a predecessor above", Look.bases(Make.machine("recv(0,0,0,a) goal(0,b,)")), "0: 0 1 0; 0/b/");
            due("a predecessor that is equal", Look.bases(Make.machine("move(0,0) goal(0,b,)")), "0: 0 1 0; 0/b/");
            due("predecessors below", Look.bases(Make.machine("send(0,0,0,a) goal(0,aa,)")),
                    "0: 0 2 0; 1: 0 1 0; 2: 0 0 0; 0//");
            due("two that are equal", Look.bases(Make.machine("move(1,0) move(1,0) goal(0,a,)")),
                    "0: 0 1 0; 1: 0 1 0, 1 1 0; 0/a/ 1/a/");
            due("one below the other", Look.bases(Make.machine("move(1,0) send(1,0,0,a) goal(0,a,)")),
                    "0: 0 1 0; 1: 0 1 0, 1 0 0; 0/a/ 1//");
        });
        holds("Analysis", sentence, () -> {
            due("each transition and each configuration",
                    Look.bases(Make.machine("move(1,0) move(2,0) move(3,4) goal(0,a,) goal(0,b,) goal(5,,)")),
                    "0: 0 1 0, 0 1 0, 5 0 0; 1: 0 1 0, 0 1 0, 1 1 0, 1 1 0, 2 1 0, 2 1 0, 5 0 0; "
                            + "0/a/ 0/b/ 1/a/ 1/b/ 2/a/ 2/b/ 5//");
            due("one firing in each round", Look.bases(Make.machine("move(2,1) move(1,0) goal(0,,)")),
                    "0: 0 0 0; 1: 0 0 0, 1 0 0; 2: 0 0 0, 1 0 0, 2 0 0; 0// 1// 2//");
            due("one that takes the place of others", Look.bases(Make.machine("move(1,2) goal(2,,) goal(1,a,) goal(1,,a)")),
                    "0: 1 0 1, 1 1 0, 2 0 0; 1: 1 0 0, 2 0 0; 1// 2//");
            Subject many = Make.machine(Machines.MANY_ABOVE_ONE);
            due("one that many others are above", many.basisSize(1) + " " + many.basisSize(2) + " " + many.lastRound(), "16 29 2");
            Subject x = new Subject();
            for (int t = 0; t < 9; t++) {
                x.addTransition(0, 0, 0, 0, 0);
            }
            x.addTransition(4, 5, 2, 1, 2);
            x.setState(5);
            x.addGoal();
            due("the last of ten transitions", Look.lastBasis(x), "4//c 5//");
        });
    }

    private static void predecessors() {
        holds("Analysis", "The predecessor has the old state.", () -> {
            for (int state = 0; state < 5; state++) {
                due("old state " + state, Look.lastBasis(Make.machine("move(" + state + ",5) goal(5,,)")), state + "// 5//");
            }
            due("old state 5", Look.lastBasis(Make.machine("send(5,0,1,b) goal(0,,b)")), "0//b 5//");
        });
        holds("Analysis", "For the action 0, its words are the same; for sending, the word of the channel is the same without "
                + "its last letter if that is the letter sent, and the same word otherwise; for receiving, the word of the "
                + "channel is the letter received followed by the same word.", () -> {
            String[] cases = {"move(1,0)", "ab", "c", "1/ab/c", "move(1,0)", "", "", "1//", "send(1,0,0,a)", "a", "a", "1//a",
                "send(1,0,1,a)", "a", "a", "1/a/", "send(1,0,0,a)", "aa", "", "1/a/", "send(1,0,0,a)", "ba", "", "1/b/",
                "send(1,0,0,a)", "ab", "", "1/ab/", "send(1,0,0,a)", "", "a", "1//a", "send(1,0,1,b)", "b", "", "1/b/",
                "send(1,0,0,c)", "b", "", "1/b/", "send(1,0,1,c)", "", "aaaaaaaaac", "1//aaaaaaaaa", "recv(1,0,0,c)", "", "",
                "1/c/", "recv(1,0,1,b)", "a", "", "1/a/b", "recv(1,0,0,a)", "ab", "b", "1/aab/b", "recv(1,0,0,b)", "ab", "b",
                "1/bab/b", "recv(1,0,1,c)", "a", "aaaaaaaaaa", "1/a/caaaaaaaaaa"};
            for (int i = 0; i < cases.length; i += 4) {
                Subject x = Make.machine(cases[i] + " goal(0," + cases[i + 1] + "," + cases[i + 2] + ")");
                due(cases[i], Look.lastBasis(x), "0/" + cases[i + 1] + "/" + cases[i + 2] + " " + cases[i + 3]);
            }
        });
    }

    private static void complete() {
        String sentence = "The analysis is complete with round k if the basis of round k + 1 is equal to that of round k; then "
                + "k is the last round.";
        holds("Analysis", sentence, () -> {
            due("round 0", Make.machine("goal(0,a,)").lastRound(), 0);
            due("round 1", Make.machine("move(1,0) goal(0,a,)").lastRound(), 1);
            due("round 2, of the same size as round 1", Make.machine("send(0,0,0,a) goal(0,aa,)").lastRound(), 2);
            due("round 12", Make.machine(Machines.TWELVE).lastRound(), 12);
            due("round 12 of the same size as before", Make.machine(Machines.TWELVE_WITH_STATES).lastRound(), 12);
            due("round 12, the greatest basis", Make.machine(Machines.THIRTY_LAST).lastRound(), 12);
        });
        holds("In doubt", "The basis of the round behind the last one may be greater than 30.", () -> {
            Subject y = Make.machine(Machines.THIRTY + " recv(0,1,0,a)");
            due("30 configurations and 18 predecessors above them", y.analyze(), 1);
            due("which add nothing", y.lastRound(), 1);
            Subject x = Make.machine(Machines.THIRTY + " move(1,1)");
            due("30 configurations and 18 predecessors that are equal to some", x.analyze(), 1);
            due("which add nothing", x.lastRound(), 1);
            due("a last round with 30", Make.machine(Machines.THIRTY_LAST).basisSize(12), 30);
        });
    }

    private static void givenUp() {
        String sentence = "It is given up if it is not complete with any of the rounds 0 to 12, or if the basis of a round up to "
                + "the first one with which it is complete, or up to round 12, has more than 30 configurations.";
        holds("Analysis", sentence, () -> {
            due("complete with round 12", Make.machine(Machines.TWELVE).analyze(), 1);
            due("not with round 12", Make.machine(Machines.THIRTEEN).analyze(), 0);
            due("with round 12, growing", Make.machine(Machines.TWELVE_WITH_STATES).analyze(), 1);
            due("not with round 12, growing", Make.machine(Machines.THIRTEEN_WITH_STATES).analyze(), 0);
        });
        holds("Analysis", sentence, () -> {
            due("30 in the last round 1", Make.machine(Machines.THIRTY).analyze(), 1);
            due("31 in round 1", Make.machine(Machines.THIRTY_ONE).analyze(), 0);
            due("30 in a round before smaller ones", Make.machine(Machines.THIRTY_BETWEEN).analyze(), 1);
            due("31 in a round before smaller ones", Make.machine(Machines.THIRTY_ONE_BETWEEN).analyze(), 0);
            due("30 in the last round 12", Make.machine(Machines.THIRTY_LAST).analyze(), 1);
            due("31 in round 12", Make.machine(Machines.THIRTY_ONE_LAST).analyze(), 0);
        });
        holds("Analysis", sentence, () -> {
            Subject x = Make.machine(Machines.THIRTY_ONE_BETWEEN);
            due("given up", x.analyze(), 0);
            due("given up again", x.analyze(), 0);
            x.removeTransition(8);
            due("without the transition from state 3", x.analyze(), 1);
            due("its greatest basis", x.basisSize(1), 27);
            x.addTransition(3, 2, 0, 0, 0);
            due("with it", x.analyze(), 0);
        });
    }

    private static void order() {
        String sentence = "The configurations of a basis are ordered by their states, then by the lengths of their words in "
                + "channel 0, then by these words, then by the lengths of their words in channel 1, then by these words, where "
                + "words are compared letter by letter.";
        holds("Analysis", sentence, () -> {
            due("by states", Look.lastBasis(Make.machine("goal(5,,) goal(0,ccc,ccc) goal(3,a,)")), "0/ccc/ccc 3/a/ 5//");
            due("by the first lengths", Look.lastBasis(Make.machine("goal(0,aaaaaaaaaa,) goal(0,ccc,a) goal(0,,aaaaaa)")),
                    "0//aaaaaa 0/ccc/a 0/aaaaaaaaaa/");
            due("by the first words", Look.lastBasis(Make.machine("goal(0,ca,a) goal(0,bc,aaa) goal(0,bb,aa)")),
                    "0/bb/aa 0/bc/aaa 0/ca/a");
            due("by the second lengths", Look.lastBasis(Make.machine("goal(0,a,aaaaaaaaaa) goal(0,a,bcb) goal(0,a,cc)")),
                    "0/a/cc 0/a/bcb 0/a/aaaaaaaaaa");
            due("by the second words", Look.lastBasis(Make.machine("goal(0,a,cab) goal(0,a,acb) goal(0,a,aca)")),
                    "0/a/aca 0/a/acb 0/a/cab");
            due("by the last letters", Look.lastBasis(Make.machine("goal(0,aaaaaaaaac,) goal(0,aaaaaaaaab,) goal(0,aaaaaaaaaa,)")),
                    "0/aaaaaaaaaa/ 0/aaaaaaaaab/ 0/aaaaaaaaac/");
        });
        holds("Analysis", sentence, () -> {
            StringBuilder thirty = new StringBuilder("0/aa/ 0/ab/ 0/ac/");
            for (String word : new String[] {"aa", "ab", "ac"}) {
                thirty.append(" 1/").append(word).append("/a 1/").append(word).append("/b 1/").append(word).append("/c");
            }
            for (String state : new String[] {" 1/", " 2/"}) {
                for (String letter : new String[] {"a", "b", "c"}) {
                    thirty.append(state).append(letter).append("aa/").append(state).append(letter).append("ab/").append(state)
                            .append(letter).append("ac/");
                }
            }
            due("thirty", Look.lastBasis(Make.machine(Machines.THIRTY)), thirty.toString());
        });
    }

    private static void consequences() {
        holds("Consequences", "If the analysis is complete, a run with at most n firings from a configuration covers a goal if "
                + "and only if some configuration of a basis is below it: that of round n, or that of the last round if n is "
                + "greater.", () -> {
            Subject x = Make.machine(Machines.TWELVE);
            for (int letters = 0; letters <= 6; letters++) {
                Make.present(x, 0, "aaaaaa".substring(6 - letters), "aaaaaa");
                due("a configuration of the basis of round " + (6 - letters), x.distance(), 6 - letters);
                Make.present(x, 0, "", "aaaaaa".substring(6 - letters));
                due("a configuration of the basis of round " + (12 - letters), x.distance(), 12 - letters);
            }
            Make.present(x, 0, "aaaaaaaaaa", "bbbbbaaaaa");
            due("above one of round 1", x.distance(), 1);
            x.setState(1);
            due("above none", x.distance(), -1);
        });
    }

    private static void addGoal() {
        holds("Promise 21", "Adds the present configuration as a goal.", () -> {
            Subject x = Make.machine("move(4,1)", 4, "abcabcabca", "cc");
            x.addGoal();
            due("the present one", Look.lastBasis(x), "4/abcabcabca/cc");
            x.clear(0);
            x.fire(0);
            due("not what it becomes later", Look.lastBasis(x), "4/abcabcabca/cc");
            x.addGoal();
            due("another one", Look.lastBasis(x), "1//cc 4//cc");
            due("the present one is as it was", Look.config(x), "1//cc");
        });
        holds("Promise 21", "Returns the number of goals.", () -> {
            Subject x = new Subject();
            due("the first", x.addGoal(), 1);
            due("an equal one", x.addGoal(), 2);
            x.put(0, 0);
            due("the third", x.addGoal(), 3);
            x.clearGoals();
            due("the first again", x.addGoal(), 1);
        });
    }

    private static void clearGoals() {
        holds("Promise 22", "Removes all goals.", () -> {
            Subject x = Make.machine("goal(1,a,) goal(1,b,) goal(2,,)");
            x.clearGoals();
            due("no analysis", () -> x.analyze(), UNSUPPORTED);
            x.addGoal();
            due("the new one alone", Look.lastBasis(x), "0//");
            x.addGoal();
            due("room for three", x.addGoal(), 3);
        });
        holds("Promise 22", "Returns the number of goals removed.", () -> {
            Subject x = new Subject();
            for (int goals = 0; goals <= 3; goals++) {
                for (int i = 0; i < goals; i++) {
                    x.addGoal();
                }
                due("goals", x.clearGoals(), goals);
            }
            due("none are left", x.clearGoals(), 0);
        });
    }

    private static void analyze() {
        holds("Promise 23", "Returns whether the analysis is complete.", () -> {
            Subject x = Make.machine(Machines.THIRTEEN);
            due("given up", x.analyze(), 0);
            x.removeTransition(1);
            due("without a transition", x.analyze(), 1);
            x.addTransition(0, 0, 1, 1, 0);
            due("with one", x.analyze(), 0);
            x.addGoal();
            due("with a goal below", x.analyze(), 1);
            x.save();
            x.clearGoals();
            Make.append(x, "goal(0,aaaaaaa,aaaaaa);");
            x.read();
            due("with a goal read", x.analyze(), 0);
            x.restore();
            due("restored", x.analyze(), 1);
            Make.present(x, 5, "abcabcabca", "c");
            due("the present configuration does not matter", x.analyze(), 1);
        });
        holds("Promise 23", "Returns 0 if it is given up, 1 if it is complete.", () -> {
            due("a goal alone", Make.machine("goal(0,,)").analyze(), 1);
            due("three goals", Make.machine("goal(0,,a) goal(1,aaaaaaaaaa,) goal(5,a,b)").analyze(), 1);
            due("twelve rounds", Make.machine(Machines.TWELVE).analyze(), 1);
            due("thirteen rounds", Make.machine(Machines.THIRTEEN).analyze(), 0);
            due("thirty configurations", Make.machine(Machines.THIRTY).analyze(), 1);
            due("thirty-one", Make.machine(Machines.THIRTY_ONE).analyze(), 0);
        });
    }

    private static void lastRound() {
        holds("Promise 24", "Returns the last round.", () -> {
            due("a goal alone", Make.machine("goal(3,a,b)").lastRound(), 0);
            due("a loop that adds nothing", Make.machine("recv(1,1,0,a) goal(1,,)").lastRound(), 0);
            due("twelve", Make.machine(Machines.TWELVE).lastRound(), 12);
            due("thirty in the last round", Make.machine(Machines.THIRTY).lastRound(), 1);
            due("thirty before smaller ones", Make.machine(Machines.THIRTY_BETWEEN).lastRound(), 5);
        });
        holds("Promise 24", "Returns the round.", () -> {
            for (int letters = 0; letters <= 10; letters++) {
                String word = "aaaaaaaaaa".substring(10 - letters);
                due("letters to take off", Make.machine("send(0,0,0,a) goal(0," + word + ",)").lastRound(), letters);
            }
        });
    }

    private static void basisSize() {
        holds("Promise 25", "Returns the number of configurations of the basis of a round.", () -> {
            int[] between = {3, 24, 30, 28, 14, 10};
            Subject x = Make.machine(Machines.THIRTY_BETWEEN);
            for (int round = 0; round <= 5; round++) {
                due("round " + round, x.basisSize(round), between[round]);
            }
            int[] growing = {3, 6, 9, 12, 15, 18, 21, 24, 26, 27, 28, 29, 30};
            Subject y = Make.machine(Machines.THIRTY_LAST);
            for (int round = 0; round <= 12; round++) {
                due("growing, round " + round, y.basisSize(round), growing[round]);
            }
        });
        holds("Promise 25", "round: the round, 0 to the last round", () -> {
            Subject x = Make.machine(Machines.TWELVE);
            due("round -1", () -> x.basisSize(-1), INDEX);
            due("round 0", x.basisSize(0), 1);
            due("round 6", x.basisSize(6), 7);
            due("round 11", x.basisSize(11), 2);
            due("round 12", x.basisSize(12), 1);
            due("round 13", () -> x.basisSize(13), INDEX);
            Subject y = Make.machine("goal(0,a,)");
            due("the only round", y.basisSize(0), 1);
            due("behind the only round", () -> y.basisSize(1), INDEX);
        });
        holds("Promise 25", "Returns the number.", () -> {
            due("one", Make.machine("goal(1,a,b)").basisSize(0), 1);
            due("equal goals", Make.machine("goal(1,a,b) goal(1,a,b) goal(2,a,b)").basisSize(0), 2);
            due("three", Make.machine("goal(1,a,b) goal(1,b,a) goal(2,a,b)").basisSize(0), 3);
            due("thirty", Make.machine(Machines.THIRTY).basisSize(1), 30);
        });
    }

    private static void basis() {
        holds("Promise 26", "Returns a part of a configuration of a basis.", () -> {
            Subject x = Make.machine("goal(2,b,a) goal(1,aa,ccc) goal(1,c,bbbb) move(0,2)");
            due("two bases", Look.bases(x), "0: 1 1 4, 1 2 3, 2 1 1; 1: 0 1 1, 1 1 4, 1 2 3, 2 1 1; "
                    + "0/b/a 1/c/bbbb 1/aa/ccc 2/b/a");
        });
        holds("Promise 26", "round: the round, 0 to the last round", () -> {
            Subject x = Make.machine(Machines.TWELVE);
            due("round -1", () -> x.basis(-1, 0, 0), INDEX);
            due("round 0", Look.basis(x, 0), "0 6 6");
            due("round 1", Look.basis(x, 1), "0 5 6, 0 6 5");
            due("round 11", Look.basis(x, 11), "0 0 1, 0 1 0");
            due("round 12", Look.basis(x, 12), "0 0 0");
            due("round 13", () -> x.basis(13, 0, 0), INDEX);
        });
        holds("Promise 26", "index: the index of the configuration, from 0", () -> {
            Subject x = Make.machine(Machines.THIRTY);
            due("index -1", () -> x.basis(1, -1, 0), INDEX);
            due("index 0", x.basis(1, 0, 1), 2);
            due("the last of thirty", x.basis(1, 29, 0) + " " + x.basis(1, 29, 1), "2 3");
            due("index 30", () -> x.basis(1, 30, 0), INDEX);
            due("the last of an earlier round", x.basis(0, 2, 0), 0);
            due("behind it", () -> x.basis(0, 3, 0), INDEX);
        });
        holds("Promise 26", "what: 0 for its state, 1 for the length of its word in channel 0, 2 for that in channel 1", () -> {
            Subject x = Make.machine("goal(5,abc,aaaaaaaaaa)");
            due("-1", () -> x.basis(0, 0, -1), INDEX);
            due("0", x.basis(0, 0, 0), 5);
            due("1", x.basis(0, 0, 1), 3);
            due("2", x.basis(0, 0, 2), 10);
            due("3", () -> x.basis(0, 0, 3), INDEX);
        });
        holds("Promise 26", "Returns the part.", () -> {
            Subject x = Make.machine("recv(1,0,0,a) recv(2,1,0,a) recv(3,2,1,a) goal(0,aaaaaaaaaa,cccccccccc)");
            due("more than ten letters", Look.basis(x, 3), "0 10 10, 1 11 10, 2 12 10, 3 12 11");
        });
    }

    private static void basisLetter() {
        holds("Promise 27", "Returns a letter of a configuration of the basis of the last round.", () -> {
            Subject x = Make.machine("send(0,0,0,c) move(0,1) goal(0,bacc,a) goal(1,c,c)");
            due("the last basis", Look.lastBasis(x), "0//c 0/ba/a 1/c/c");
            due("not that of round 0", x.basis(0, 0, 1), 4);
            due("of a place that is there in round 0 alone", () -> x.basisLetter(1, 0, 2), INDEX);
        });
        holds("Promise 27", "index: the index of the configuration, from 0", () -> {
            Subject x = Make.machine(Machines.THIRTY);
            due("index -1", () -> x.basisLetter(-1, 0, 0), INDEX);
            due("index 0", x.basisLetter(0, 0, 0), 0);
            due("the last of thirty", x.basisLetter(29, 0, 0), 2);
            due("index 30", () -> x.basisLetter(30, 0, 0), INDEX);
        });
        holds("Promise 27", "channel: the channel, 0 or 1", () -> {
            Subject x = Make.machine("goal(1,b,c)");
            due("channel -1", () -> x.basisLetter(0, -1, 0), INDEX);
            due("channel 0", x.basisLetter(0, 0, 0), 1);
            due("channel 1", x.basisLetter(0, 1, 0), 2);
            due("channel 2", () -> x.basisLetter(0, 2, 0), INDEX);
        });
        holds("Promise 27", "place: the place in the word, from 0", () -> {
            Subject x = Make.machine("goal(1,cbacbacbab,)");
            due("place -1", () -> x.basisLetter(0, 0, -1), INDEX);
            for (int place = 0; place < 10; place++) {
                due("place " + place, x.basisLetter(0, 0, place), "cbacbacbab".charAt(place) - 'a');
            }
            due("place 10", () -> x.basisLetter(0, 0, 10), INDEX);
            due("place 0 of no letter", () -> x.basisLetter(0, 1, 0), INDEX);
        });
        holds("Promise 27", "Returns the letter.", () -> {
            Subject x = Make.machine("recv(0,1,0,c) recv(2,0,0,b) recv(3,2,1,a) goal(1,aaaaaaaaaa,)");
            due("of more than ten letters", Look.lastBasis(x),
                    "0/caaaaaaaaaa/ 1/aaaaaaaaaa/ 2/bcaaaaaaaaaa/ 3/bcaaaaaaaaaa/a");
            due("the last of twelve", x.basisLetter(3, 0, 11), 0);
            due("behind it", () -> x.basisLetter(3, 0, 12), INDEX);
        });
    }

    private static void coveringStates() {
        holds("Promise 28", "Returns the states in which a run from a configuration with empty channels covers a goal.", () -> {
            due("a goal without letters", Make.machine("goal(5,,)").coveringStates(), 32);
            due("a letter in channel 0", Make.machine("goal(1,a,)").coveringStates(), 0);
            due("a letter in channel 1", Make.machine("goal(1,,a)").coveringStates(), 0);
            due("behind sending", Make.machine("send(0,1,0,a) goal(1,a,)").coveringStates(), 1);
            due("a letter to be received first",
                    Make.machine("send(0,1,0,a) recv(1,2,0,a) recv(3,1,1,b) move(4,0) goal(2,,)").coveringStates(), 21);
            due("behind twelve firings", Make.machine(Machines.TWELVE).coveringStates(), 1);
            Subject x = Make.machine("goal(1,a,)");
            Make.present(x, 1, "a", "");
            due("the present channels do not matter", x.coveringStates(), 0);
        });
        holds("Promise 28", "Returns the set of states.", () -> {
            due("none", Make.machine("move(1,0) goal(0,,c)").coveringStates(), 0);
            for (int state = 0; state < 6; state++) {
                due("one", Make.machine("goal(" + state + ",,)").coveringStates(), 1 << state);
            }
            due("all", Make.machine("move(0,1) move(1,2) move(2,3) move(3,4) move(4,5) goal(5,,)").coveringStates(), 63);
        });
    }

    private static void least() {
        holds("Promise 29", "Returns the least sum of the lengths of both words of a configuration with a state from which a "
                + "run covers a goal.", () -> {
            Subject x = Make.machine("recv(0,1,0,a) recv(2,0,1,b) recv(0,3,0,c) goal(1,ab,c) goal(3,,bb)");
            int[] least = {3, 3, 4, 2, -1, -1};
            for (int state = 0; state < 6; state++) {
                due("state " + state, x.least(state), least[state]);
            }
            due("the least of three", Make.machine("goal(4,aaa,b) goal(4,b,a) goal(4,,bbb)").least(4), 2);
            due("the first of three", Make.machine("goal(4,,b) goal(4,bbb,a) goal(4,b,aaa)").least(4), 1);
            due("the last in order", Make.machine("goal(4,aa,) goal(4,,bbb) goal(4,a,cc)").least(4), 2);
        });
        holds("Promise 29", "Returns the sum, or -1 if there is no such configuration.", () -> {
            Subject x = Make.machine("goal(4,,)");
            due("no letter", x.least(4), 0);
            due("no such configuration", x.least(3), -1);
            due("twenty letters", Make.machine("goal(0,aaaaaaaaaa,bbbbbbbbbb)").least(0), 20);
            due("one more", Make.machine("recv(5,0,0,c) goal(0,aaaaaaaaaa,bbbbbbbbbb)").least(5), 21);
            due("both words", Make.machine("goal(5,a,b)").least(5), 2);
        });
    }
}
