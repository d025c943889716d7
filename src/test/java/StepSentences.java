/** The present configuration and its steps: the paragraph on it, and promises 6 to 16. */
final class StepSentences extends Sentences {
    private StepSentences() {
    }

    static void run() {
        greatestLength();
        trail();
        mostSteps();
        forgetting();
        setState();
        put();
        clear();
        stateAndLength();
        letter();
        enabled();
        fire();
        lose();
        undo();
        increase();
    }

    /** A transition that does nothing and a loop that sends, with two steps: a firing and a loss. */
    private static Subject twoSteps() {
        Subject x = Make.machine("move(0,0) send(0,0,1,c)", 0, "ab", "c");
        x.fire(0);
        x.lose(0, 1);
        return x;
    }

    private static void greatestLength() {
        holds("Present configuration", "It is changed by calls, where a channel never has more than 10 letters.", () -> {
            for (int channel = 0; channel < 2; channel++) {
                int c = channel;
                Subject x = new Subject();
                x.addTransition(0, 0, 1, c, 0);
                Make.put(x, c, "bbbbbbbbb");
                due("the tenth by a firing", x.fire(0), 0);
                due("ten", x.length(c), 10);
                due("the eleventh by a firing", () -> x.fire(0), STATE);
                due("the eleventh by put", () -> x.put(c, 0), STATE);
                due("still ten", Look.word(x, c), "bbbbbbbbba");
                due("the other channel has room", x.put(1 - c, 0), 1);
                x.lose(c, 0);
                due("the tenth by put", x.put(c, 2), 10);
                due("ten again", Look.word(x, c), "bbbbbbbbac");
            }
        });
        holds("Present configuration", "It is changed by calls, where a channel never has more than 10 letters.", () -> {
            Subject x = Make.machine("send(0,0,1,a) recv(0,1,0,a)", 0, "aaaaaaaaaa", "");
            due("to one channel while the other is full", x.fire(0), 0);
            due("from a full channel", x.fire(1), 1);
            x.undo();
            due("full again by undo", x.length(0), 10);
        });
    }

    private static void trail() {
        holds("Present configuration", "The trail consists of the present configuration and of the configurations before "
                + "the steps that can be undone, from the oldest one on.", () -> {
            Subject x = Make.machine("move(0,1) move(1,2) move(2,1) move(2,3)");
            due("the present one alone", x.increase(), -1);
            x.fire(0);
            x.fire(1);
            due("three different ones", x.increase(), -1);
            x.fire(2);
            due("the present one is the last", x.increase(), 103);
            x.undo();
            x.fire(3);
            due("what was undone is not in it", x.increase(), -1);
        });
        holds("Present configuration", "The trail consists of the present configuration and of the configurations before "
                + "the steps that can be undone, from the oldest one on.", () -> {
            Subject x = nineteenLosses();
            due("nineteen losses", x.increase(), -1);
            x.fire(0);
            due("the last two of twenty-one", x.increase(), 1920);
            x.fire(0);
            due("the numbers move along", x.increase(), 1819);
        });
    }

    /** From full channels, with a letter left; transition 0 does nothing. */
    private static Subject nineteenLosses() {
        Subject x = Make.machine("move(0,0)", 0, "aaaaaaaaaa", "bbbbbbbbbb");
        for (int i = 0; i < 19; i++) {
            x.lose(i % 2, 0);
        }
        return x;
    }

    private static void mostSteps() {
        holds("Present configuration", "A step is a firing or a loss made by a call; at most 20 steps can be undone, older "
                + "ones are forgotten.", () -> {
            for (int steps = 0; steps <= 22; steps++) {
                Subject x = Make.machine("send(0,1,0,a) recv(1,0,0,a)");
                for (int i = 0; i < steps; i++) {
                    x.fire(i % 2);
                }
                int undone = 0;
                while (undone < 25 && Check.answer(() -> x.undo()).equals(0)) {
                    undone++;
                }
                due("undone of " + steps, undone, Math.min(steps, 20));
                due("the oldest one left of " + steps, x.state(), steps == 21 ? 1 : 0);
            }
        });
        holds("Present configuration", "A step is a firing or a loss made by a call; at most 20 steps can be undone, older "
                + "ones are forgotten.", () -> {
            Subject x = nineteenLosses();
            x.fire(0);
            due("the twentieth, a firing", x.undo(), 0);
            x.fire(0);
            x.fire(0);
            due("the kinds move along", "" + x.undo() + x.undo() + x.undo(), "001");
            for (int i = 0; i < 17; i++) {
                due("a loss", x.undo(), 1);
            }
            due("behind the forgotten loss", Look.config(x), "0/aaaaaaaaa/bbbbbbbbbb");
            due("nothing is left", () -> x.undo(), STATE);
        });
        holds("Present configuration", "A step is a firing or a loss made by a call; at most 20 steps can be undone, older "
                + "ones are forgotten.", () -> {
            Subject x = Make.machine("send(0,0,0,a)", 0, "aaaaaaaaa", "bbbbbbbbbb");
            x.fire(0);
            for (int i = 0; i < 20; i++) {
                x.lose(i % 2, 0);
            }
            due("both empty", Look.config(x), "0//");
            for (int i = 0; i < 20; i++) {
                due("a loss of twenty", x.undo(), 1);
            }
            due("both full", x.length(0) + x.length(1), 20);
            due("the firing before them is forgotten", () -> x.undo(), STATE);
        });
    }

    private static void forgetting() {
        holds("Present configuration", "Calls that change the present configuration in another way forget all steps.", () -> {
            Subject x = twoSteps();
            x.setState(1);
            dueForgotten("setState", x);
            Subject y = twoSteps();
            y.put(0, 0);
            dueForgotten("put", y);
            Subject z = twoSteps();
            z.clear(0);
            dueForgotten("clear", z);
            Subject r = twoSteps();
            r.save();
            due("save changes nothing", r.undo(), 1);
            r.restore();
            dueForgotten("restore", r);
        });
        holds("Present configuration", "Calls that change the present configuration in another way forget all steps.", () -> {
            Subject x = twoSteps();
            x.addGoal();
            String seen = Look.machine(x) + Look.config(x) + Look.bases(x) + x.enabled(false) + x.enabled(true) + x.increase()
                    + x.isBelow(0) + x.embeddings(1) + x.common() + x.subwords(0) + x.coveringStates() + x.least(0) + x.distance()
                    + Check.answer(() -> x.covering(0)) + x.statesAfter(4) + x.isLast(1, 4) + x.faultPosition();
            due("calls that change nothing forget nothing", seen.isEmpty() + " " + Look.config(x), "false 0/a/c");
            due("the loss", x.undo(), 1);
            due("the firing", x.undo(), 0);
        });
        holds("In doubt", "A change that leaves all as it was forgets the steps, too; transitions and goals that are added "
                + "or removed do not.", () -> {
            Subject x = twoSteps();
            x.setState(0);
            dueForgotten("setState", x);
            Subject y = Make.machine("move(0,0)", 0, "", "b");
            y.fire(0);
            y.clear(0);
            dueForgotten("clear of an empty channel", y);
            Subject z = twoSteps();
            z.save();
            z.restore();
            dueForgotten("restore of what is there", z);
        });
        holds("In doubt", "A change that leaves all as it was forgets the steps, too; transitions and goals that are added "
                + "or removed do not.", () -> {
            Subject x = twoSteps();
            x.addTransition(0, 0, 0, 0, 0);
            x.removeTransition(0);
            x.addGoal();
            x.clearGoals();
            Make.append(x, "move(0,0);goal(1,a,b);");
            x.read();
            due("the loss", x.undo(), 1);
            due("the firing, of a transition that has been removed", x.undo(), 0);
            due("before both", Look.config(x), "0/ab/c");
        });
    }

    private static void setState() {
        holds("Promise 6", "Sets the state.", () -> {
            Subject x = Make.words("abcabcabca", "c");
            for (int state : new int[] {5, 0, 0, 5, 4, 3, 2, 1}) {
                x.setState(state);
                due("state " + state, Look.config(x), state + "/abcabcabca/c");
            }
        });
        holds("Promise 6", "All steps are forgotten.", () -> {
            Subject x = twoSteps();
            x.setState(3);
            dueForgotten("two steps", x);
            Subject y = Make.machine("move(0,0)");
            for (int i = 0; i < 20; i++) {
                y.fire(0);
            }
            y.setState(0);
            dueForgotten("twenty steps", y);
            y.fire(0);
            due("a new one", y.undo(), 0);
            due("no other", () -> y.undo(), STATE);
        });
        holds("Promise 6", "Returns the previous state.", () -> {
            Subject x = Make.machine("move(5,2)");
            due("of a new object", x.setState(5), 0);
            due("the same", x.setState(5), 5);
            x.fire(0);
            due("behind a firing", x.setState(0), 2);
        });
    }

    private static void put() {
        holds("Promise 7", "Puts a letter at the end of a channel.", () -> {
            Subject x = new Subject();
            x.put(1, 2);
            due("into an empty channel", Look.config(x), "0//c");
            Make.put(x, 1, "abcabcab");
            x.put(1, 0);
            due("the tenth", Look.config(x), "0//cabcabcaba");
            x.put(0, 1);
            due("channel 0", Look.config(x), "0/b/cabcabcaba");
        });
        holds("Promise 7", "All steps are forgotten.", () -> {
            Subject x = twoSteps();
            x.put(1, 0);
            dueForgotten("two steps", x);
        });
        holds("Promise 7", "channel: the channel, 0 or 1", () -> {
            Subject x = new Subject();
            x.put(0, 0);
            x.put(1, 1);
            due("each its letter", Look.config(x), "0/a/b");
        });
        holds("Promise 7", "Returns the length of the word afterwards.", () -> {
            Subject x = Make.words("abc", "");
            for (int length = 1; length <= 10; length++) {
                due("length", x.put(1, length % 3), length);
            }
            due("of channel 0", x.put(0, 0), 4);
        });
    }

    private static void clear() {
        holds("Promise 8", "Empties a channel.", () -> {
            Subject x = Make.words("abcabcabca", "ba");
            x.clear(0);
            due("ten letters", Look.config(x), "0//ba");
            x.clear(0);
            due("no letter", Look.config(x), "0//ba");
            x.setState(4);
            x.clear(1);
            due("the other one", Look.config(x), "4//");
        });
        holds("Promise 8", "All steps are forgotten.", () -> {
            Subject x = twoSteps();
            x.clear(1);
            dueForgotten("two steps", x);
        });
        holds("Promise 8", "channel: the channel, 0 or 1", () -> {
            Subject x = Make.words("a", "bc");
            due("channel 1", x.clear(1), 2);
            due("channel 0", x.clear(0), 1);
        });
        holds("Promise 8", "Returns the length of the word before.", () -> {
            Subject x = Make.words("abcabcabca", "b");
            due("ten", x.clear(0), 10);
            due("none", x.clear(0), 0);
            due("one", x.clear(1), 1);
        });
    }

    private static void stateAndLength() {
        holds("Promise 9", "Returns the state.", () -> {
            Subject x = Make.machine("move(0,5)");
            due("new", x.state(), 0);
            x.fire(0);
            due("fired", x.state(), 5);
            x.undo();
            due("undone", x.state(), 0);
            x.setState(4);
            due("set", x.state(), 4);
        });
        holds("Promise 10", "Returns the length of the word of a channel.", () -> {
            Subject x = Make.machine("send(0,0,1,c)", 0, "aabbccaabb", "");
            due("ten", x.length(0), 10);
            due("none", x.length(1), 0);
            x.fire(0);
            due("sent", x.length(1), 1);
            x.lose(0, 9);
            due("lost", x.length(0), 9);
        });
        holds("Promise 10", "channel: the channel, 0 or 1", () -> {
            due("channel 0", Make.words("ab", "c").length(0), 2);
            due("channel 1", Make.words("ab", "c").length(1), 1);
        });
        holds("Promise 10", "Returns the length.", () -> {
            Subject x = new Subject();
            for (int length = 0; length <= 10; length++) {
                due("length", x.length(0), length);
                Check.answer(() -> x.put(0, 1));
            }
        });
    }

    private static void letter() {
        holds("Promise 11", "Returns a letter of a channel.", () -> {
            String word = "cabbacabca";
            Subject x = Make.words(word, "acb");
            for (int i = 0; i < 10; i++) {
                due("index " + i, x.letter(0, i), word.charAt(i) - 'a');
            }
            due("channel 1", x.letter(1, 1), 2);
        });
        holds("Promise 11", "channel: the channel, 0 or 1", () -> {
            Subject x = Make.words("b", "c");
            due("channel 0", x.letter(0, 0), 1);
            due("channel 1", x.letter(1, 0), 2);
        });
        holds("Promise 11", "index: the index, 0 for the beginning", () -> {
            Subject x = Make.machine("recv(0,0,0,b)", 0, "bca", "");
            due("0", x.letter(0, 0), 1);
            due("the last one", x.letter(0, 2), 0);
            x.fire(0);
            due("0 behind a receiving", x.letter(0, 0), 2);
        });
        holds("Promise 11", "Returns the letter.", () -> {
            Subject x = Make.words("abc", "abc");
            for (int letter = 0; letter < 3; letter++) {
                due("channel 0", x.letter(0, letter), letter);
                due("channel 1", x.letter(1, letter), letter);
            }
        });
    }

    private static void enabled() {
        holds("Promise 12", "Returns the transitions that can fire in the present configuration, without regard to the "
                + "greatest length of words.", () -> {
            Subject x = Make.machine("send(0,0,0,a) send(0,0,1,a) recv(0,0,0,c)", 0, "bbbbbbbbbb", "bbbbbbbbbb");
            due("sending to full channels", x.enabled(false), 3);
            due("sending to full channels, with losses", x.enabled(true), 3);
            due("which cannot be fired", () -> x.fire(0), STATE);
        });
        holds("Promise 12", "withLosses: whether losses are possible before the firing", () -> {
            Subject x = Make.machine("recv(0,1,0,a) recv(0,1,0,b) recv(0,1,1,a) move(0,1) send(0,1,0,c)");
            due("no letter", x.enabled(false), 24);
            due("no letter to lose", x.enabled(true), 24);
            Make.present(x, 0, "bbbbbbbbba", "a");
            due("the first letters", x.enabled(false), 30);
            due("also the last of ten", x.enabled(true), 31);
            Make.present(x, 0, "ccccccccca", "");
            due("none first", x.enabled(false), 24);
            due("nine to lose", x.enabled(true), 25);
            x.setState(1);
            due("another state", x.enabled(true), 0);
            due("nothing was lost", x.length(0), 10);
        });
        holds("Promise 12", "Returns the set of transitions.", () -> {
            due("no transition", new Subject().enabled(true), 0);
            Subject x = new Subject();
            for (int t = 0; t < 10; t++) {
                x.addTransition(t == 9 ? 1 : 0, 0, 0, 0, 0);
            }
            due("the first nine of ten", x.enabled(false), 511);
            x.setState(1);
            due("the tenth", x.enabled(false), 512);
            due("the tenth, with losses", x.enabled(true), 512);
            x.removeTransition(0);
            due("now the ninth", x.enabled(false), 256);
        });
    }

    private static void fire() {
        holds("Promise 13", "Fires a transition in the present configuration, without losses.", () -> {
            Subject x = Make.machine("recv(0,1,0,a) send(0,0,1,b)", 0, "ba", "a");
            due("a letter before it", () -> x.fire(0), STATE);
            x.lose(0, 0);
            due("now the first letter", x.fire(0), 1);
            due("received", Look.config(x), "1//a");
            x.setState(0);
            due("sending needs no letter", x.fire(1), 0);
            due("sent", Look.config(x), "0//ab");
            due("no letter", () -> x.fire(0), STATE);
        });
        holds("Promise 13", "Returns the state afterwards.", () -> {
            Subject x = Make.machine("move(0,5) send(5,5,0,a) recv(5,0,0,a)");
            due("another one", x.fire(0), 5);
            due("the same one", x.fire(1), 5);
            due("state 0", x.fire(2), 0);
        });
        holds("Promise 13", "Returns the state afterwards.", () -> {
            Subject x = new Subject();
            for (int t = 0; t < 10; t++) {
                x.addTransition(t % 6, (t + 1) % 6, 0, 0, 0);
            }
            x.setState(3);
            due("the last of ten", x.fire(9), 4);
            due("each keeps its own", x.fire(4), 5);
        });
    }

    private static void lose() {
        holds("Promise 14", "Loses a letter.", () -> {
            Subject x = Make.words("abc", "abc");
            x.lose(0, 1);
            due("the middle", Look.config(x), "0/ac/abc");
            x.lose(1, 2);
            due("the end", Look.config(x), "0/ac/ab");
            x.lose(1, 0);
            due("the beginning", Look.config(x), "0/ac/b");
            due("three steps", "" + x.undo() + x.undo() + x.undo(), "111");
            due("all back", Look.config(x), "0/abc/abc");
        });
        holds("Promise 14", "channel: the channel, 0 or 1", () -> {
            Subject x = Make.words("a", "b");
            due("channel 1", x.lose(1, 0), 1);
            due("channel 0", x.lose(0, 0), 0);
        });
        holds("Promise 14", "index: the index of the letter, 0 for the beginning", () -> {
            Subject x = Make.words("bcaaaaaaac", "");
            due("0", x.lose(0, 0), 1);
            due("the ninth of nine", x.lose(0, 8), 2);
            due("0 again", x.lose(0, 0), 2);
            due("left", Look.word(x, 0), "aaaaaaa");
        });
        holds("Promise 14", "Returns the letter.", () -> {
            Subject x = Make.words("abc", "cba");
            due("a", x.lose(0, 0), 0);
            due("b", x.lose(0, 0), 1);
            due("c", x.lose(0, 0), 2);
            due("a of channel 1", x.lose(1, 2), 0);
            due("b of channel 1", x.lose(1, 1), 1);
            due("c of channel 1", x.lose(1, 0), 2);
        });
    }

    private static void undo() {
        holds("Promise 15", "Undoes the latest step.", () -> {
            Subject x = Make.machine("send(0,1,0,a) recv(1,2,1,b)", 0, "c", "bb");
            x.fire(0);
            x.lose(0, 0);
            x.fire(1);
            x.undo();
            due("a receiving", Look.config(x), "1/a/bb");
            x.undo();
            due("a loss", Look.config(x), "1/ca/bb");
            x.undo();
            due("a sending", Look.config(x), "0/c/bb");
            due("no further one", () -> x.undo(), STATE);
            x.lose(1, 1);
            x.undo();
            due("a step behind undone ones", Look.config(x), "0/c/bb");
        });
        holds("Promise 15", "Returns 0 if it was a firing, 1 if it was a loss.", () -> {
            Subject x = Make.machine("move(0,0)", 0, "a", "b");
            x.lose(0, 0);
            x.fire(0);
            x.lose(1, 0);
            due("loss", x.undo(), 1);
            due("firing", x.undo(), 0);
            x.fire(0);
            due("another firing in its place", x.undo(), 0);
            x.lose(1, 0);
            due("a loss in its place", x.undo(), 1);
            due("the first one", x.undo(), 1);
        });
    }

    private static void increase() {
        holds("Promise 16", "Finds the first two configurations i < j of the trail, numbered from 0, for which i is below j: "
                + "those with the least j, and of these those with the least i.", () -> {
            Subject x = Make.machine("send(0,1,0,b) move(1,0) recv(1,1,0,a) send(1,1,1,c)");
            x.fire(0);
            x.fire(3);
            due("1 is below 2 by its second word", x.increase(), 102);
            x.fire(1);
            due("the least j, though 0 is below 3", x.increase(), 102);
            x.undo();
            x.undo();
            x.fire(1);
            due("0 is below 2", x.increase(), 2);
        });
        holds("Promise 16", "Finds the first two configurations i < j of the trail, numbered from 0, for which i is below j: "
                + "those with the least j, and of these those with the least i.", () -> {
            Subject x = Make.machine("send(0,0,0,a)", 0, "bc", "b");
            x.lose(0, 0);
            x.lose(0, 0);
            x.lose(1, 0);
            x.fire(0);
            due("3 is below 4", x.increase(), 304);
            x.undo();
            due("later ones are not below earlier ones", x.increase(), -1);
            Subject y = Make.machine("move(0,1) move(1,2) move(2,3) recv(3,0,0,a)", 0, "ba", "b");
            y.lose(0, 0);
            y.lose(1, 0);
            y.fire(0);
            due("states differ", y.increase(), -1);
            Subject z = Make.machine("send(0,0,0,a)", 0, "a", "");
            z.lose(0, 0);
            z.fire(0);
            due("0 and 1 are below 2: the least i", z.increase(), 2);
        });
        holds("Promise 16", "Returns 100 * i + j, or -1 if there are none.", () -> {
            due("the present one alone", new Subject().increase(), -1);
            Subject x = Make.machine("move(0,0)", 0, "a", "");
            x.lose(0, 0);
            due("a loss alone", x.increase(), -1);
            x.fire(0);
            due("equal ones", x.increase(), 102);
            Subject y = Make.machine("move(0,0)");
            y.fire(0);
            due("the least answer that tells two", y.increase(), 1);
            Subject z = nineteenLosses();
            z.fire(0);
            due("the greatest answer", z.increase(), 1920);
        });
    }
}
