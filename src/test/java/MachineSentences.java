/** Machines: the paragraphs on machines and configurations, and promises 1 to 5. */
final class MachineSentences extends Sentences {
    private MachineSentences() {
    }

    static void run() {
        numbers();
        channels();
        firings();
        losses();
        orders();
        newObject();
        addTransition();
        removeTransition();
        transition();
        transitionCount();
    }

    private static void numbers() {
        holds("Machine", "There are six states, 0 to 5, two channels, 0 and 1, and three letters, a, b and c, "
                + "numbered 0, 1 and 2.", () -> {
            Subject x = new Subject();
            for (int state = 0; state < 6; state++) {
                x.setState(state);
                due("state " + state, x.state(), state);
                due("transition from state " + state, x.addTransition(state, 5 - state, 0, 0, 0), state);
            }
            due("state -1", () -> x.setState(-1), ARGUMENT);
            due("state 6", () -> x.setState(6), ARGUMENT);
            for (int channel = 0; channel < 2; channel++) {
                for (int letter = 0; letter < 3; letter++) {
                    due("letter " + letter + " in channel " + channel, x.put(channel, letter), letter + 1);
                    due("it is there", x.letter(channel, letter), letter);
                }
            }
            due("channel -1", () -> x.put(-1, 0), INDEX);
            due("channel 2", () -> x.put(2, 0), INDEX);
            due("letter -1", () -> x.put(0, -1), ARGUMENT);
            due("letter 3", () -> x.put(0, 3), ARGUMENT);
        });
        holds("Machine", "There are six states, 0 to 5, two channels, 0 and 1, and three letters, a, b and c, "
                + "numbered 0, 1 and 2.", () -> {
            Subject x = Make.text("goal(5,abc,cba);");
            due("a text with the signs of letters", x.read(), 1);
            for (int place = 0; place < 3; place++) {
                due("channel 0, place " + place, x.basisLetter(0, 0, place), place);
                due("channel 1, place " + place, x.basisLetter(0, 1, place), 2 - place);
            }
        });
        holds("Machine", "There are at most 10 transitions, numbered from 0 in their order.", () -> {
            Subject x = new Subject();
            for (int t = 0; t < 10; t++) {
                due("number", x.addTransition(t % 6, 0, 0, 0, 0), t);
            }
            for (int t = 0; t < 10; t++) {
                due("old state of transition " + t, x.transition(t, 0), t % 6);
            }
            due("an eleventh", () -> x.addTransition(0, 0, 0, 0, 0), STATE);
            Make.append(x, "move(0,0);");
            due("an eleventh by a text", () -> x.read(), STATE);
            due("transition 10", () -> x.transition(10, 0), INDEX);
        });
    }

    private static void channels() {
        holds("Machine", "A channel contains a word; letters are sent to its end and received from its beginning.", () -> {
            for (int channel = 0; channel < 2; channel++) {
                Subject x = Make.words("ab", "ab");
                x.addTransition(0, 0, 1, channel, 2);
                x.addTransition(0, 0, 2, channel, 0);
                x.fire(0);
                due("sent to channel " + channel, Look.word(x, channel), "abc");
                x.fire(1);
                due("received from channel " + channel, Look.word(x, channel), "bc");
                due("the other channel", Look.word(x, 1 - channel), "ab");
            }
        });
        holds("Machine", "A transition has an old state, a new state and an action: 0 nothing, 1 sending a letter to a "
                + "channel, 2 receiving a letter from a channel.", () -> {
            Subject x = Make.words("a", "b");
            x.addTransition(0, 5, 0, 0, 0);
            x.addTransition(5, 1, 1, 1, 2);
            x.addTransition(1, 4, 2, 0, 0);
            x.fire(0);
            due("action 0", Look.config(x), "5/a/b");
            x.fire(1);
            due("action 1", Look.config(x), "1/a/bc");
            x.fire(2);
            due("action 2", Look.config(x), "4//bc");
            due("action -1", () -> x.addTransition(0, 0, -1, 0, 0), ARGUMENT);
            due("action 3", () -> x.addTransition(0, 0, 3, 0, 0), ARGUMENT);
        });
        holds("Configurations", "A configuration consists of a state and the words of both channels.", () -> {
            Subject x = new Subject();
            for (String goal : new String[] {"2/a/b", "2/a/c", "3/a/b"}) {
                String[] parts = goal.split("/");
                Make.present(x, Integer.parseInt(parts[0]), parts[1], parts[2]);
                x.addGoal();
            }
            due("goals that differ in one of these", Look.lastBasis(x), "2/a/b 2/a/c 3/a/b");
        });
    }

    private static void firings() {
        holds("Configurations", "A transition can fire in a configuration if its old state is the state and, for "
                + "receiving, its letter is the first letter of its channel.", () -> {
            Subject x = Make.machine("recv(0,1,0,a) recv(0,1,1,a)");
            due("empty channels", x.enabled(false), 0);
            Make.present(x, 0, "a", "");
            due("the only letter of channel 0", x.enabled(false), 1);
            Make.present(x, 0, "", "a");
            due("the only letter of channel 1", x.enabled(false), 2);
            Make.present(x, 0, "abbbbbbbbb", "baaaaaaaaa");
            due("the first of ten letters, and all but the first", x.enabled(false), 1);
            Make.present(x, 1, "a", "a");
            due("another state", x.enabled(false), 0);
            due("another state, fire", () -> x.fire(0), STATE);
        });
        holds("Configurations", "Firing it leads to the new state; the letter is put at the end of the channel, or removed "
                + "from its beginning.", () -> {
            Subject x = Make.machine("send(0,5,0,b) recv(5,5,0,b) send(5,2,1,c) recv(2,0,1,c)");
            x.fire(0);
            due("to an empty channel", Look.config(x), "5/b/");
            x.fire(1);
            due("the only letter, the same state", Look.config(x), "5//");
            x.fire(2);
            due("to channel 1", Look.config(x), "2//c");
            x.fire(3);
            due("from channel 1", Look.config(x), "0//");
            Make.present(x, 0, "abbbbbbbb", "cbbbbbbbbb");
            x.fire(0);
            due("the tenth letter", Look.config(x), "5/abbbbbbbbb/cbbbbbbbbb");
            Make.present(x, 2, "abbbbbbbbb", "cbbbbbbbbb");
            x.fire(3);
            due("the first of ten", Look.config(x), "0/abbbbbbbbb/bbbbbbbbb");
        });
    }

    private static void losses() {
        holds("Configurations", "A loss removes one letter from any place of a channel.", () -> {
            String word = "abcabcabcb";
            for (int channel = 0; channel < 2; channel++) {
                for (int place = 0; place < 10; place++) {
                    Subject x = Make.words(word, word);
                    x.lose(channel, place);
                    due("place " + place, Look.word(x, channel), word.substring(0, place) + word.substring(place + 1));
                    due("the other channel", Look.word(x, 1 - channel), word);
                }
            }
            Subject y = Make.words("", "c");
            y.lose(1, 0);
            due("the only letter", Look.config(y), "0//");
        });
    }

    private static void orders() {
        holds("Configurations", "A word is below another one if it can be made from it by removing letters at any places, "
                + "possibly none.", () -> {
            String[] pairs = {"", "", "", "a", "", "aaaaaaaaaa", "a", "a", "abcabcabca", "abcabcabca", "a", "bcbcbcbcba",
                "a", "abcbcbcbcb", "ab", "cacb", "acb", "aacbcb", "aaaaa", "abababcaba"};
            for (int i = 0; i < pairs.length; i += 2) {
                due(pairs[i] + " and " + pairs[i + 1], Make.words(pairs[i], pairs[i + 1]).isBelow(0), true);
            }
            String[] others = {"a", "", "a", "b", "aa", "a", "ab", "ba", "aa", "ab", "abcabcabca", "abcabcabc", "ac", "bcab",
                "aaaaaaaaaa", "aaaaaaaaa", "aaaaaa", "abababcaba"};
            for (int i = 0; i < others.length; i += 2) {
                due(others[i] + " and " + others[i + 1], Make.words(others[i], others[i + 1]).isBelow(0), false);
            }
        });
        holds("Configurations", "A configuration is below another one if the states are equal and both words are below the "
                + "corresponding words of the other one.", () -> {
            Subject x = Make.machine("goal(3,a,b)");
            Make.present(x, 3, "a", "b");
            due("equal", x.distance(), 0);
            Make.present(x, 3, "cabcabcabc", "acbacbacba");
            due("both words below", x.distance(), 0);
            Make.present(x, 2, "a", "b");
            due("another state", x.distance(), -1);
            Make.present(x, 3, "", "b");
            due("only the second word", x.distance(), -1);
            Make.present(x, 3, "a", "");
            due("only the first word", x.distance(), -1);
            Make.present(x, 3, "b", "a");
            due("the words of the other channels", x.distance(), -1);
        });
    }

    private static void newObject() {
        holds("Promise 1", "Creates a machine without transitions and goals.", () -> {
            due("transitions", new Subject().transitionCount(), 0);
            due("transition 0", () -> new Subject().transition(0, 0), INDEX);
            due("firing", new Subject().enabled(true), 0);
            due("goals", new Subject().clearGoals(), 0);
            due("analysis", () -> new Subject().analyze(), UNSUPPORTED);
            Subject used = Make.machine("move(0,1) goal(0,a,b)");
            Subject x = new Subject();
            due("transitions behind another object's", x.transitionCount() + x.clearGoals(), 0);
            due("the other object's", used.transitionCount() + used.clearGoals(), 2);
        });
        holds("Promise 1", "The state is 0, and both channels are empty.", () -> {
            Subject x = new Subject();
            due("state", x.state(), 0);
            due("channel 0", x.length(0), 0);
            due("channel 1", x.length(1), 0);
            due("letter 0", () -> x.letter(0, 0), ELEMENT);
            due("nothing to undo", () -> x.undo(), STATE);
            due("nothing saved", () -> x.restore(), STATE);
            due("nothing to read", () -> x.read(), ARGUMENT);
        });
    }

    private static void addTransition() {
        holds("Promise 2", "Adds a transition, as the last one.", () -> {
            Subject x = Make.machine("move(0,1) send(1,2,1,c)");
            x.addTransition(5, 0, 2, 0, 1);
            due("behind others", Look.machine(x), "0 1 0 -1 -1, 1 2 1 1 2, 5 0 2 0 1");
            x.removeTransition(0);
            x.addTransition(0, 0, 1, 0, 0);
            due("behind others, where one has been removed", Look.machine(x), "1 2 1 1 2, 5 0 2 0 1, 0 0 1 0 0");
            x.addTransition(0, 0, 1, 0, 0);
            due("the same one again", Look.transition(x, 3), "0 0 1 0 0");
            Subject y = Make.machine("goal(1,,)");
            due("before", y.distance(), -1);
            y.addTransition(0, 1, 0, 0, 0);
            due("the analysis sees it", y.distance(), 1);
        });
        holds("Promise 2", "action: the action, 0 to 2", () -> {
            Subject x = new Subject();
            for (int action = 0; action <= 2; action++) {
                x.addTransition(0, 0, action, 0, 0);
                due("action", x.transition(action, 2), action);
            }
        });
        holds("Promise 2", "channel: the channel; it is ignored for the action 0", () -> {
            Subject x = new Subject();
            for (int channel : new int[] {-1, 0, 1, 2, Integer.MIN_VALUE, Integer.MAX_VALUE}) {
                int number = x.addTransition(0, 0, 0, channel, 0);
                due("of channel " + channel, Look.transition(x, number), "0 0 0 -1 -1");
            }
            due("not for the action 1", () -> x.addTransition(0, 0, 1, 2, 0), ARGUMENT);
            due("not for the action 2", () -> x.addTransition(0, 0, 2, -1, 0), ARGUMENT);
        });
        holds("Promise 2", "letter: the letter; it is ignored for the action 0", () -> {
            Subject x = new Subject();
            for (int letter : new int[] {-1, 0, 2, 3, Integer.MIN_VALUE, Integer.MAX_VALUE}) {
                int number = x.addTransition(0, 0, 0, 0, letter);
                due("of letter " + letter, Look.transition(x, number), "0 0 0 -1 -1");
            }
            due("not for the action 1", () -> x.addTransition(0, 0, 1, 0, 3), ARGUMENT);
            due("not for the action 2", () -> x.addTransition(0, 0, 2, 0, -1), ARGUMENT);
        });
        holds("Promise 2", "Returns the number of the transition.", () -> {
            Subject x = new Subject();
            for (int t = 0; t < 10; t++) {
                due("number", x.addTransition(0, 0, 1, 1, 1), t);
            }
            x.removeTransition(0);
            due("the last number again", x.addTransition(0, 0, 0, 0, 0), 9);
        });
    }

    private static void removeTransition() {
        holds("Promise 3", "Removes a transition.", () -> {
            for (int t = 0; t < 10; t++) {
                Subject x = tenTransitions();
                x.removeTransition(t);
                StringBuilder rest = new StringBuilder();
                for (int other = 0; other < 10; other++) {
                    rest.append(other == t ? "" : ", " + other % 6 + " " + other / 6 + " 1 1 " + other % 3);
                }
                due("number " + t + " of ten", Look.machine(x), rest.substring(2));
            }
            Subject y = Make.machine("move(0,0)");
            y.removeTransition(0);
            due("the only one", Look.machine(y), "");
            Subject z = Make.machine("move(0,1) goal(1,,) move(1,2)");
            due("before", z.distance(), 1);
            z.removeTransition(0);
            due("the analysis sees it", z.distance(), -1);
        });
        holds("Promise 3", "The numbers of the later ones decrease by 1.", () -> {
            Subject x = tenTransitions();
            x.removeTransition(4);
            due("the one before", Look.transition(x, 3), "3 0 1 1 0");
            due("the one behind", Look.transition(x, 4), "5 0 1 1 2");
            due("the last one", Look.transition(x, 8), "3 1 1 1 0");
            due("number 9", () -> x.transition(9, 0), INDEX);
            due("set of those that can fire in state 0", x.enabled(false), 1 | 1 << 5);
        });
        holds("Promise 3", "Returns the number of transitions that remain.", () -> {
            Subject x = tenTransitions();
            for (int rest = 9; rest >= 0; rest--) {
                due("remain", x.removeTransition(rest / 2), rest);
            }
        });
    }

    private static Subject tenTransitions() {
        Subject x = new Subject();
        for (int t = 0; t < 10; t++) {
            x.addTransition(t % 6, t / 6, 1, 1, t % 3);
        }
        return x;
    }

    private static void transition() {
        holds("Promise 4", "Returns a part of a transition.", () -> {
            Subject x = tenTransitions();
            due("the first one", Look.transition(x, 0), "0 0 1 1 0");
            due("the last one of ten", Look.transition(x, 9), "3 1 1 1 0");
        });
        holds("Promise 4", "what: 0 for its old state, 1 for its new state, 2 for its action, 3 for its channel, 4 for its "
                + "letter", () -> {
            Subject x = Make.machine("recv(4,5,1,b)");
            int[] parts = {4, 5, 2, 1, 1};
            for (int what = 0; what <= 4; what++) {
                due("what " + what, x.transition(0, what), parts[what]);
            }
            Subject y = Make.machine("send(0,0,0,a) recv(5,5,1,c)");
            due("all least", Look.transition(y, 0), "0 0 1 0 0");
            due("all greatest", Look.transition(y, 1), "5 5 2 1 2");
        });
        holds("Promise 4", "Returns the part; -1 for the channel or the letter if the action is 0.", () -> {
            Subject x = new Subject();
            x.addTransition(5, 4, 0, 1, 2);
            Make.append(x, "move(1,2);");
            x.read();
            due("added by a call", Look.transition(x, 0), "5 4 0 -1 -1");
            due("added by a text", Look.transition(x, 1), "1 2 0 -1 -1");
            x.save();
            x.restore();
            due("restored", Look.machine(x), "5 4 0 -1 -1, 1 2 0 -1 -1");
            due("not for the action 1", Look.transition(Make.machine("send(0,0,0,a)"), 0), "0 0 1 0 0");
            due("not for the action 2", Look.transition(Make.machine("recv(0,0,0,a)"), 0), "0 0 2 0 0");
        });
    }

    private static void transitionCount() {
        holds("Promise 5", "Returns the number of transitions.", () -> {
            Subject x = new Subject();
            for (int count = 0; count < 10; count++) {
                due("count", x.transitionCount(), count);
                x.addTransition(0, 0, 0, 0, 0);
            }
            due("ten", x.transitionCount(), 10);
        });
        holds("Promise 5", "Returns the number.", () -> {
            Subject x = tenTransitions();
            Check.answer(() -> x.addTransition(0, 0, 0, 0, 0));
            due("behind an eleventh", x.transitionCount(), 10);
            for (int count = 9; count >= 0; count--) {
                x.removeTransition(count);
                due("count", x.transitionCount(), count);
            }
        });
    }
}
