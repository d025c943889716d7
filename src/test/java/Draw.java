/** Machines and words for tests, always the same ones for the same seed. */
final class Draw {
    private long seed;

    Draw(long seed) {
        this.seed = seed;
    }

    int below(int bound) {
        seed = seed * 6364136223846793005L + 1442695040888963407L;
        return (int) ((seed >>> 33) % bound);
    }

    /** Commands for Make: up to 10 transitions and 1 to 3 goals. */
    String machine(int states, int letters) {
        StringBuilder commands = new StringBuilder();
        int receiving = below(4);
        int count = below(11);
        for (int i = 0; i < count; i++) {
            int p = below(states);
            int q = below(3) == 0 ? below(states) : (p + 1) % states;
            int action = below(5) < receiving ? 2 : below(3);
            commands.append(action == 0 ? "move(" : action == 1 ? "send(" : "recv(").append(p).append(',').append(q);
            if (action != 0) {
                commands.append(',').append(below(2)).append(',').append(word(1, letters));
            }
            commands.append(") ");
        }
        int goals = 1 + below(3);
        for (int i = 0; i < goals; i++) {
            int length = below(3) == 0 ? 0 : below(15) == 0 ? 10 : below(6);
            int first = below(length + 1);
            commands.append("goal(").append(below(states)).append(',').append(word(first, letters)).append(',')
                    .append(word(length - first, letters)).append(") ");
        }
        return commands.toString().strip();
    }

    String word(int length, int letters) {
        StringBuilder word = new StringBuilder();
        for (int i = 0; i < length; i++) {
            word.append((char) ('a' + below(letters)));
        }
        return word.toString();
    }
}
