import java.util.Map;
import java.util.TreeMap;

/** Many machines with goals: all that follows from their bases, compared with the model. */
public final class AnalysisTest {
    private static final int MACHINES = 12000;

    private static long seed;
    private static final Map<String, Integer> SEEN = new TreeMap<>();

    public static void main(String[] args) {
        for (int i = 0; i < MACHINES; i++) {
            seed = i * 104729L + 17;
            compare(i);
        }
        String[] wanted = {"analysis 0", "analysis 1", "last 0", "last 12", "size 20", "size 25", "distance -1", "distance 0",
            "distance 9", "distance 11", "lost 1", "lost 5", "length 12"};
        for (String sight : wanted) {
            Check.due(sight + " has been seen", SEEN.getOrDefault(sight, 0) > 0, true);
        }
        Check.finish("AnalysisTest");
    }

    private static int below(int bound) {
        seed = seed * 6364136223846793005L + 1442695040888963407L;
        return (int) ((seed >>> 33) % bound);
    }

    private static void see(String what, Object value) {
        SEEN.merge(what + " " + value, 1, Integer::sum);
    }

    private static void compare(int number) {
        LossyChannels x = new LossyChannels();
        Model m = new Model();
        int states = 1 + below(6);
        int letters = 1 + below(3);
        int receiving = below(4);
        int count = below(11);
        for (int i = 0; i < count; i++) {
            int p = below(states);
            int q = below(3) == 0 ? below(states) : (p + 1) % states;
            int action = below(5) < receiving ? 2 : below(3);
            int channel = below(2);
            int letter = below(letters);
            x.addTransition(p, q, action, channel, letter);
            m.addTransition(p, q, action, channel, letter);
        }
        int goals = 1 + below(3);
        for (int i = 0; i < goals; i++) {
            present(x, m, states, letters, below(3) == 0 ? 0 : below(6));
            x.addGoal();
            m.addGoal();
        }
        Check.due("machine " + number + ": analyze", x.analyze(), m.analyze());
        see("analysis", m.analyze());
        if (m.analyze() == 1) {
            bases(number, x, m);
            for (int i = 0; i < 6; i++) {
                present(x, m, states, letters, below(18));
                covering(number, x, m);
            }
        }
    }

    private static void present(LossyChannels x, Model m, int states, int letters, int length) {
        int state = below(states);
        x.setState(state);
        m.setState(state);
        for (int channel = 0; channel < 2; channel++) {
            x.clear(channel);
            m.clear(channel);
        }
        for (int i = 0; i < length; i++) {
            int channel = below(2);
            int letter = below(letters);
            if (m.length(channel) < 10) {
                x.put(channel, letter);
                m.put(channel, letter);
            }
        }
    }

    private static void bases(int number, LossyChannels x, Model m) {
        int last = m.lastRound();
        Check.due("machine " + number + ": lastRound", x.lastRound(), last);
        see("last", last);
        for (int round = 0; round <= last; round++) {
            int k = round;
            Check.due("machine " + number + ": basisSize", x.basisSize(k), m.basisSize(k));
            see("size", m.basisSize(k));
            for (int index = 0; index < m.basisSize(k); index++) {
                for (int what = 0; what < 3; what++) {
                    Check.due("machine " + number + ": basis", x.basis(k, index, what), m.basis(k, index, what));
                }
            }
        }
        for (int index = 0; index < m.basisSize(last); index++) {
            for (int channel = 0; channel < 2; channel++) {
                int length = m.basis(last, index, 1 + channel);
                see("length", length);
                for (int place = 0; place < length; place++) {
                    Check.due("machine " + number + ": basisLetter", x.basisLetter(index, channel, place),
                            m.basisLetter(index, channel, place));
                }
            }
        }
        Check.due("machine " + number + ": coveringStates", x.coveringStates(), m.coveringStates());
        for (int state = 0; state < 6; state++) {
            Check.due("machine " + number + ": least", x.least(state), m.least(state));
        }
    }

    private static void covering(int number, LossyChannels x, Model m) {
        int distance = m.distance();
        Check.due("machine " + number + ": distance", x.distance(), distance);
        see("distance", distance);
        for (int i = 0; i <= distance; i++) {
            int index = i;
            Check.due("machine " + number + ": covering", () -> x.covering(index), Check.answer(() -> m.covering(index)));
            Check.due("machine " + number + ": lost", () -> x.lost(index), Check.answer(() -> m.lost(index)));
            see("lost", Check.answer(() -> m.lost(index)));
        }
    }
}
