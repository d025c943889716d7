/** Texts and snapshots: the paragraph on texts, and promises 35 to 39. */
final class TextSentences extends Sentences {
    private TextSentences() {
    }

    static void run() {
        commandsWithEnds();
        commands();
        whatTheyAdd();
        noSpaces();
        words();
        faultPositions();
        wordsInDoubt();
        tooMany();
        append();
        read();
        emptied();
        faultPosition();
        save();
        restore();
    }

    /** A text has its fault at an index; -1 if it has none. */
    private static void dueFault(String text, int fault) {
        Subject x = Make.text(text);
        due("read of " + text, Check.answer(() -> x.read()) instanceof Integer, fault < 0);
        due("fault of " + text, x.faultPosition(), fault);
        due("transitions and goals of " + text, x.transitionCount() + x.clearGoals() > 0, fault < 0);
    }

    private static void dueFaults(String... textsAndFaults) {
        for (int i = 0; i < textsAndFaults.length; i += 2) {
            dueFault(textsAndFaults[i], Integer.parseInt(textsAndFaults[i + 1]));
        }
    }

    private static void commandsWithEnds() {
        holds("Texts", "A text for reading consists of one or more commands, each of which is followed by \";\".", () -> {
            dueFaults("", "0", ";", "0", "move(0,1)", "9", "move(0,1);", "-1", "move(0,1);;", "10", ";move(0,1);", "0",
                    "move(0,1)move(1,0);", "9", "move(0,1);goal(0,,)", "19", "move(0,1),", "9", "move(0,1):", "9");
            String eight = "move(0,1);".repeat(8);
            dueFault(eight, -1);
            dueFault(eight.substring(0, 79), 79);
            dueFault(eight.substring(0, 79) + ",", 79);
        });
    }

    private static void commands() {
        String sentence = "The commands are send(p,q,c,x), recv(p,q,c,x), move(p,q) and goal(p,u,v), where p and q are digits of "
                + "states, c is the digit of a channel, x is a letter, and u and v are words of 0 to 10 letters for the "
                + "channels 0 and 1.";
        holds("Texts", sentence, () -> {
            for (int state = 0; state <= 5; state++) {
                dueFaults("send(" + state + ",0,0,a);", "-1", "send(0," + state + ",0,a);", "-1", "recv(" + state + ",0,0,a);",
                        "-1", "recv(0," + state + ",0,a);", "-1", "move(" + state + ",0);", "-1", "move(0," + state + ");", "-1",
                        "goal(" + state + ",,);", "-1");
            }
            for (String state : new String[] {"6", "/", ":", "-", "a", ",", "01"}) {
                int fault = state.length() - 1;
                dueFaults("send(" + state + ",0,0,a);", "" + (5 + fault), "recv(" + state + ",0,0,a);", "" + (5 + fault),
                        "move(0," + state + ");", "" + (7 + fault), "goal(" + state + ",,);", "" + (5 + fault));
            }
        });
        holds("Texts", sentence, () -> {
            for (String name : new String[] {"send", "recv"}) {
                for (int channel = 0; channel <= 1; channel++) {
                    dueFault(name + "(0,0," + channel + ",a);", -1);
                }
                dueFaults(name + "(0,0,2,a);", "9", name + "(0,0,/,a);", "9", name + "(0,0,,a);", "9", name + "(0,0,00,a);", "10");
                for (String letter : new String[] {"a", "b", "c"}) {
                    dueFault(name + "(0,0,1," + letter + ");", -1);
                }
                dueFaults(name + "(0,0,1,d);", "11", name + "(0,0,1,`);", "11", name + "(0,0,1,A);", "11", name + "(0,0,1,0);",
                        "11", name + "(0,0,1,);", "11", name + "(0,0,1,aa);", "12", name + "(0,0);", "8");
            }
            dueFaults("move(0,0,0,a);", "8", "move(0);", "6", "goal(0);", "6", "goal(0,);", "7");
        });
        holds("Texts", sentence, () -> {
            for (int length = 0; length <= 12; length++) {
                String word = "abcabcabcabc".substring(0, length);
                dueFault("goal(0," + word + ",);", length <= 10 ? -1 : 17);
                dueFault("goal(0,," + word + ");", length <= 10 ? -1 : 18);
            }
            dueFaults("goal(5,cccccccccc,aaaaaaaaaa);", "-1", "goal(5,cccccccccc,aaaaaaaaaaa);", "28", "goal(0,abcd,);", "10",
                    "goal(0,,d);", "8", "goal(0,ab,c0);", "11", "goal(0,a,b,);", "10", "goal(0,`,);", "7", "goal(0,A,);", "7");
            Subject x = Make.text("goal(5,cba,cccccccccc);");
            x.read();
            due("u and v", Look.lastBasis(x), "5/cba/cccccccccc");
        });
    }

    private static void whatTheyAdd() {
        holds("Texts", "The first three add a transition with old state p and new state q, with the actions 1, 2 and 0; the last "
                + "one adds a goal.", () -> {
            Subject x = Make.text("send(0,5,1,c);recv(5,0,0,a);move(2,3);goal(4,abc,);");
            x.read();
            due("transitions", Look.machine(x), "0 5 1 1 2, 5 0 2 0 0, 2 3 0 -1 -1");
            due("goal", Look.lastBasis(x), "4/abc/");
            due("the present configuration stays", Look.config(x), "0//");
            due("one goal", x.clearGoals(), 1);
        });
    }

    private static void noSpaces() {
        holds("Texts", "There are no spaces.", () -> {
            for (String command : new String[] {"send(0,5,1,c);", "recv(5,0,0,a);", "move(2,3);", "goal(4,ab,b);"}) {
                for (int place = 0; place <= command.length(); place++) {
                    // A word that is cut by a space is none of the four, and has its fault at its beginning.
                    int fault = place < 4 ? 0 : place;
                    dueFault(command.substring(0, place) + " " + command.substring(place), fault);
                }
            }
        });
    }

    private static void words() {
        holds("Texts", "At the beginning of a command, the longest sequence of letters a to z is read as one word.", () -> {
            dueFaults("sendd(0,0,0,a);", "0", "sends", "0", "sendmove(0,0);", "0", "movea", "0", "movez(0,0);", "0", "zmove(0,0);",
                    "0", "goalgoal(0,,);", "0", "recvx", "0", "az", "0", "move`", "4", "move{", "4", "moveA(0,0);", "4", "move0",
                    "4", "move,", "4");
            dueFaults("move(0,0);sendd(0,0,0,a);", "10", "move(0,0);z", "10", "move(0,0);movem", "10");
        });
    }

    private static void faultPositions() {
        String sentence = "The fault position of a text is the index of the first letter of this word if it is not one of the "
                + "four, and otherwise the index of the first character of the text that cannot continue such a text, or the "
                + "length of the text if it ends too early.";
        holds("Texts", sentence, () -> {
            for (String command : new String[] {"send(0,5,1,c);", "recv(5,0,0,a);", "move(2,3);", "goal(4,ab,b);"}) {
                for (int end = 0; end < command.length(); end++) {
                    int fault = end < 4 ? 0 : end;
                    dueFault(command.substring(0, end), fault);
                    dueFault("move(0,0);" + command.substring(0, end), end == 0 ? -1 : 10 + fault);
                    dueFault(command.substring(0, end) + "?", fault);
                    dueFault("move(0,0);" + command.substring(0, end) + "?", 10 + fault);
                    dueFault(command.substring(0, end) + "?" + command.substring(end + 1), fault);
                }
                dueFault(command, -1);
                dueFault(command + "?", command.length());
            }
        });
        holds("Texts", sentence, () -> {
            for (String command : new String[] {"send(0,5,1,c);", "recv(5,0,0,a);", "move(2,3);", "goal(4,ab,b);"}) {
                for (int place = 0; place < command.length(); place++) {
                    char sign = command.charAt(place);
                    if (place < 4 || !Character.isLetterOrDigit(sign)) {
                        int fault = place < 4 ? 0 : place;
                        dueFault(command.substring(0, place) + (char) (sign - 1) + command.substring(place + 1), fault);
                        dueFault(command.substring(0, place) + (char) (sign + 1) + command.substring(place + 1), fault);
                    }
                }
            }
        });
        holds("Texts", sentence, () -> {
            dueFaults("love(0,1);", "0", "mive(0,1);", "0", "mose(0,1);", "0", "movf(0,1);", "0", "mov(0,1);", "0", "gola(0,,);",
                    "0", "resv(0,0,0,a);", "0", "sen(0,0,0,a);", "0", "a(0,0);", "0");
            dueFaults("move(0,1);love(0,1);", "10", "move(0,1);goal(0,,);recv(0,0,0,a);snd(0,0,0,a);", "34");
        });
        holds("Texts", sentence, () -> {
            String text = "goal(0,aaaaaaaaaa,bbbbbbbbbb);".repeat(2) + "goal(0,,ab);";
            dueFault(text + "move(0,0", 80);
            dueFault(text + "move(0,:", 79);
            dueFault(text + "move", 76);
            dueFault(text + "movemove", 72);
            dueFault("z".repeat(80), 0);
            dueFault("?".repeat(80), 0);
            dueFault("\uffff", 0);
            dueFault("\0", 0);
            dueFault("move(\u0130,0);", 5);
            dueFault("mov\u00e9(0,0);", 0);
        });
        holds("Texts", sentence, () -> {
            Subject x = Make.text("sendd");
            Check.answer(() -> x.read());
            Make.append(x, "send");
            Check.answer(() -> x.read());
            due("what an earlier text has left is no part of it", x.faultPosition(), 4);
            Make.append(x, "move(0,1);");
            due("a whole text", x.read(), 1);
            Make.append(x, "move(0,1)");
            Check.answer(() -> x.read());
            due("a part of it", x.faultPosition(), 9);
        });
    }

    private static void wordsInDoubt() {
        String sentence = "A word of letters that is none of the four has its fault at its first letter, also at the end of the "
                + "text or if it is too long; a character that is no letter there is the fault itself.";
        holds("In doubt", sentence, () -> {
            dueFaults("s", "0", "sen", "0", "x", "0", "sendd", "0", "sendsendsend", "0", "move(1,1);s", "10", "move(1,1);sen", "10",
                    "move(1,1);goall", "10");
        });
        holds("In doubt", sentence, () -> {
            dueFaults("0", "0", "(", "0", ";", "0", "Send(0,0,0,a);", "0", " send(0,0,0,a);", "0", "`", "0", "{", "0", "move(1,1);1",
                    "10", "move(1,1);(", "10", "move(1,1);Z", "10", "move(1,1);\u00e9", "10");
        });
    }

    private static void tooMany() {
        holds("In doubt", "A text whose commands would be too many has no fault, and none of them is carried out.", () -> {
            Subject x = Make.text("goal(0,,);goal(1,,);move(0,1);goal(2,,);goal(3,,);");
            due("four goals", () -> x.read(), STATE);
            due("its fault position", x.faultPosition(), -1);
            due("transitions", x.transitionCount(), 0);
            due("goals", x.clearGoals(), 0);
            Subject y = nineTransitions();
            Make.append(y, "goal(0,,);move(0,1);move(0,2);");
            due("eleven transitions", () -> y.read(), STATE);
            due("its fault position, too", y.faultPosition(), -1);
            due("still nine", y.transitionCount(), 9);
            due("no goal", y.clearGoals(), 0);
        });
    }

    private static Subject nineTransitions() {
        Subject x = new Subject();
        for (int t = 0; t < 9; t++) {
            x.addTransition(0, 0, 0, 0, 0);
        }
        return x;
    }

    private static void append() {
        holds("Promise 35", "Appends a character to the text buffer.", () -> {
            Subject x = new Subject();
            Make.append(x, "move");
            x.transitionCount();
            Make.append(x, "(0,1);");
            due("ten characters", x.read(), 1);
            Make.append(x, "move(0,1);".repeat(8));
            due("the eighty-first", () -> x.append(';'), STATE);
            due("eighty characters", x.read(), 8);
            x.append('?');
            due("none before", () -> x.read(), ARGUMENT);
            due("the first one", x.faultPosition(), 0);
        });
    }

    private static void read() {
        holds("Promise 36", "Reads the text buffer and executes its commands from left to right.", () -> {
            Subject x = Make.machine("send(5,5,0,a)");
            x.setState(5);
            x.fire(0);
            Make.append(x, "move(0,1);recv(1,2,1,b);goal(3,a,);move(2,3);");
            x.read();
            due("behind those that were there", Look.machine(x), "5 5 1 0 0, 0 1 0 -1 -1, 1 2 2 1 1, 2 3 0 -1 -1");
            due("steps are not forgotten", x.undo(), 0);
            x.setState(3);
            due("a goal with a letter", x.distance(), -1);
            x.put(0, 0);
            due("which is there", x.distance(), 0);
        });
        holds("Promise 36", "Reads the text buffer and executes its commands from left to right.", () -> {
            Subject x = nineTransitions();
            x.addGoal();
            x.addGoal();
            Make.append(x, "goal(1,,);move(5,5);");
            due("the last ones that fit", x.read(), 2);
            due("ten transitions", Look.transition(x, 9), "5 5 0 -1 -1");
            due("three goals", x.clearGoals(), 3);
        });
        holds("Promise 36", "Reads the text buffer and executes its commands from left to right.", () -> {
            Subject x = Make.machine("goal(1,,)");
            due("no transition", x.distance(), -1);
            Make.append(x, "move(0,1);");
            x.read();
            due("the analysis sees a transition", x.distance(), 1);
            Make.append(x, "goal(0,,);");
            x.read();
            due("the analysis sees a goal", x.distance(), 0);
        });
        holds("Promise 36", "Returns the number of commands.", () -> {
            for (int number = 1; number <= 8; number++) {
                due("commands", Make.text("move(0,1);".repeat(number)).read(), number);
            }
            due("of each kind", Make.text("goal(0,,);send(0,0,0,a);recv(0,0,0,a);move(0,0);").read(), 4);
        });
    }

    private static void emptied() {
        String sentence = "The buffer is emptied, also if an exception is thrown; then no command is executed.";
        holds("Promise 36", sentence, () -> {
            Subject x = Make.text("move(0,1);");
            x.read();
            due("behind a text without fault", () -> x.read(), ARGUMENT);
            due("an empty text", x.faultPosition(), 0);
            due("one transition", x.transitionCount(), 1);
            Make.append(x, "move(0,1);".repeat(8));
            due("room for eighty characters", x.read(), 8);
        });
        holds("Promise 36", sentence, () -> {
            Subject x = Make.text("goal(0,a,b);move(0,1);");
            x.read();
            Make.append(x, "goal(0,a,b);move(1,2);");
            x.read();
            due("each command once", Look.machine(x) + ", " + x.clearGoals(), "0 1 0 -1 -1, 1 2 0 -1 -1, 2");
        });
        holds("Promise 36", sentence, () -> {
            Subject x = Make.text("move(0,1);goal(0,,);move(0,1)?");
            due("a fault", () -> x.read(), ARGUMENT);
            due("no transition", x.transitionCount(), 0);
            due("no goal", x.clearGoals(), 0);
            Make.append(x, "move(0,1);".repeat(8));
            due("room for eighty characters", x.read(), 8);
            due("eight transitions", x.transitionCount(), 8);
            due("and no goal", x.clearGoals(), 0);
        });
        holds("Promise 36", sentence, () -> {
            Subject x = nineTransitions();
            Make.append(x, "goal(0,,);move(0,1);move(0,1);");
            due("too many transitions", () -> x.read(), STATE);
            due("no transition", x.transitionCount(), 9);
            due("no goal", x.clearGoals(), 0);
            Make.append(x, "move(4,5);");
            due("no command is left", x.read(), 1);
            due("but the new one", Look.transition(x, 9), "4 5 0 -1 -1");
            due("no goal is left", x.clearGoals(), 0);
            Make.append(x, "z".repeat(80));
            due("room for eighty characters", () -> x.append('z'), STATE);
        });
    }

    private static void faultPosition() {
        holds("Promise 37", "Returns the fault position of the text of the latest call of read.", () -> {
            Subject x = Make.text("move(0,7);");
            Check.answer(() -> x.read());
            due("a fault", x.faultPosition(), 7);
            due("the same again", x.faultPosition(), 7);
            Make.append(x, "x");
            due("before the next text is read", x.faultPosition(), 7);
            Check.answer(() -> x.read());
            due("another fault", x.faultPosition(), 0);
            Make.append(x, "move(0,1);move");
            Check.answer(() -> x.read());
            due("the end of a text", x.faultPosition(), 14);
            x.save();
            x.restore();
            due("not saved, not restored", x.faultPosition(), 14);
        });
        holds("Promise 37", "Returns the fault position, or -1 if the text had no fault or read has not been called.", () -> {
            Subject x = new Subject();
            due("a new object", x.faultPosition(), -1);
            Make.append(x, "?");
            due("a text that is not read", x.faultPosition(), -1);
            Check.answer(() -> x.read());
            due("read, with a fault", x.faultPosition(), 0);
            Make.append(x, "move(0,1);");
            x.read();
            due("read, without fault", x.faultPosition(), -1);
            Check.answer(() -> x.read());
            due("an empty text", x.faultPosition(), 0);
            Make.append(x, "goal(0,,);goal(0,,);goal(0,,);goal(0,,);");
            Check.answer(() -> x.read());
            due("too many goals, without fault", x.faultPosition(), -1);
        });
    }

    /** Something of all that is saved, with a step. */
    private static Subject saved() {
        Subject x = Make.machine("send(0,1,0,a) goal(1,a,) goal(2,,)", 0, "cab", "bbbbbbbbbb");
        x.fire(0);
        x.save();
        return x;
    }

    private static String all(Subject x) {
        return Look.machine(x) + " | " + Look.config(x) + " | " + Look.lastBasis(x);
    }

    private static void save() {
        String sentence = "Saves the transitions, the present configuration and the goals, in place of an earlier snapshot.";
        holds("Promise 38", sentence, () -> {
            Subject x = saved();
            due("steps are not forgotten", x.undo(), 0);
            x.addTransition(1, 1, 0, 0, 0);
            x.clearGoals();
            x.clear(1);
            x.addGoal();
            x.save();
            x.removeTransition(0);
            x.removeTransition(0);
            Make.present(x, 5, "c", "c");
            x.addGoal();
            x.restore();
            due("the later one", all(x), "0 1 1 0 0, 1 1 0 -1 -1 | 0/cab/ | 0/cab/");
        });
        holds("Promise 38", sentence, () -> {
            Subject x = new Subject();
            x.save();
            for (int t = 0; t < 10; t++) {
                x.addTransition(t % 6, 5, 2, 1, 2);
            }
            Make.present(x, 5, "aaaaaaaaaa", "cccccccccc");
            x.addGoal();
            x.addGoal();
            x.addGoal();
            x.restore();
            due("of a new object", Look.machine(x) + "|" + Look.config(x) + "|" + x.clearGoals(), "|0//|0");
        });
        holds("Promise 38", sentence, () -> {
            Subject x = new Subject();
            for (int t = 0; t < 10; t++) {
                x.addTransition(t % 6, 5, 2, 1, 2);
            }
            Make.present(x, 5, "aaaaaaaaab", "cccccccccb");
            x.addGoal();
            x.addGoal();
            x.addGoal();
            x.save();
            String machine = Look.machine(x);
            for (int t = 9; t >= 0; t--) {
                x.removeTransition(t);
            }
            Make.present(x, 0, "", "");
            x.clearGoals();
            x.restore();
            due("of a full one", Look.machine(x) + "|" + Look.config(x) + "|" + x.clearGoals(),
                    machine + "|5/aaaaaaaaab/cccccccccb|3");
        });
        holds("Promise 38", sentence, () -> {
            Subject x = Make.text("move(");
            x.save();
            Make.append(x, "0,1);");
            due("the text buffer stays", x.read(), 1);
            Make.append(x, "move(");
            x.restore();
            Make.append(x, "4,5);");
            due("the text buffer stays at restore, too", x.read(), 1);
            due("the transitions are those saved and the new one", Look.machine(x), "4 5 0 -1 -1");
        });
    }

    private static void restore() {
        holds("Promise 39", "Restores what was saved; the snapshot is kept.", () -> {
            Subject x = saved();
            String saved = all(x);
            for (int i = 0; i < 3; i++) {
                due("restore " + i, x.restore(), "restore");
                due("what was saved", all(x), saved);
                due("its distance", x.distance(), 0);
                x.addTransition(1, 2, 0, 0, 0);
                x.lose(0, 0);
                x.clearGoals();
                x.setState(2);
                x.addGoal();
                x.setState(1);
                due("another distance", x.distance(), 1);
            }
            x.restore();
            x.restore();
            due("restored twice", all(x), saved);
            x.restore();
            x.save();
            x.restore();
            due("saved as restored", all(x), saved);
        });
        holds("Promise 39", "All steps are forgotten.", () -> {
            Subject x = saved();
            x.restore();
            dueForgotten("a step before save", x);
            x.lose(0, 0);
            x.lose(0, 0);
            x.restore();
            dueForgotten("steps behind save", x);
            x.lose(0, 0);
            due("a step behind restore", x.undo(), 1);
            due("no other", () -> x.undo(), STATE);
        });
    }
}
