/** Makes objects to be tested, by few calls, so that many remain for the test. */
final class Make {
    private Make() {
    }

    /**
     * A machine with what commands as those of a text add, without their semicolons and with spaces between them. It
     * is made without reading a text; state 0 and empty channels are present.
     */
    static Subject machine(String commands) {
        Subject x = new Subject();
        add(x, commands);
        return x;
    }

    /** Adds what commands add. A goal makes state 0 and empty channels present, and forgets the steps. */
    static void add(Subject x, String commands) {
        for (String command : commands.split(" ")) {
            String[] parts = command.substring(5, command.length() - 1).split(",", -1);
            int state = Integer.parseInt(parts[0]);
            if (command.startsWith("goal")) {
                present(x, state, parts[1], parts[2]);
                x.addGoal();
                present(x, 0, "", "");
            } else if (command.startsWith("move")) {
                x.addTransition(state, Integer.parseInt(parts[1]), 0, 0, 0);
            } else {
                x.addTransition(state, Integer.parseInt(parts[1]), command.startsWith("send") ? 1 : 2,
                        Integer.parseInt(parts[2]), parts[3].charAt(0) - 'a');
            }
        }
    }

    /** A machine without goals whose present configuration is given. */
    static Subject machine(String commands, int state, String first, String second) {
        Subject x = machine(commands);
        present(x, state, first, second);
        return x;
    }

    /** An object without transitions and goals. */
    static Subject words(String first, String second) {
        Subject x = new Subject();
        put(x, 0, first);
        put(x, 1, second);
        return x;
    }

    static void present(Subject x, int state, String first, String second) {
        x.setState(state);
        x.clear(0);
        x.clear(1);
        put(x, 0, first);
        put(x, 1, second);
    }

    static void put(Subject x, int channel, String word) {
        for (int i = 0; i < word.length(); i++) {
            x.put(channel, word.charAt(i) - 'a');
        }
    }

    static Subject append(Subject x, String text) {
        for (int i = 0; i < text.length(); i++) {
            x.append(text.charAt(i));
        }
        return x;
    }

    /** An object whose text buffer contains a text. */
    static Subject text(String text) {
        return append(new Subject(), text);
    }
}
