import java.util.Map;
import java.util.TreeMap;

/** Many machines with goals: all that follows from their bases, compared with the model. */
public final class AnalysisTest {
    private static final int MACHINES = 15000;

    private static Draw draw;
    private static final Map<String, Integer> SEEN = new TreeMap<>();

    public static void main(String[] args) {
        for (int i = 0; i < MACHINES; i++) {
            draw = new Draw(i * 104729L + 17);
            compare(i);
        }
        Check.about("");
        String[] wanted = {"analysis 0", "analysis 1", "last 0", "last 12", "size 20", "size 25", "distance -1", "distance 0",
            "distance 9", "distance 11", "lost 1", "lost 5", "length 12"};
        for (String sight : wanted) {
            Check.due(sight + " has been seen", SEEN.getOrDefault(sight, 0) > 0, true);
        }
        Check.finish("AnalysisTest");
    }

    private static void see(String what, Object value) {
        SEEN.merge(what + " " + value, 1, Integer::sum);
    }

    private static void compare(int number) {
        int states = 1 + draw.below(6);
        int letters = 1 + draw.below(3);
        String commands = draw.machine(states, letters);
        Model m = model(commands);
        Check.about("machine " + number + ", " + commands + ": ");
        Check.due("analyze", Make.machine(commands).analyze(), m.analyze());
        see("analysis", m.analyze());
        if (m.analyze() == 1) {
            bases(commands, m);
            lastBasis(commands, m);
            Subject x = Make.machine(commands);
            for (int i = 0; i < 6; i++) {
                present(x, m, states, letters);
                covering(x, m);
            }
        }
    }

    private static Model model(String commands) {
        Model m = new Model();
        for (String command : commands.split(" ")) {
            for (char c : (command + ";").toCharArray()) {
                m.append(c);
            }
            m.read();
        }
        return m;
    }

    private static void present(Subject x, Model m, int states, int letters) {
        int state = draw.below(states);
        String[] words = {draw.word(draw.below(10), letters), draw.word(draw.below(10), letters)};
        Make.present(x, state, words[0], words[1]);
        m.setState(state);
        for (int channel = 0; channel < 2; channel++) {
            m.clear(channel);
            for (char c : words[channel].toCharArray()) {
                m.put(channel, c - 'a');
            }
        }
    }

    private static void bases(String commands, Model m) {
        int last = m.lastRound();
        see("last", last);
        for (int round = 0; round <= last; round++) {
            Subject x = Make.machine(commands);
            Check.due("lastRound", x.lastRound(), last);
            Check.due("basisSize of round " + round, x.basisSize(round), m.basisSize(round));
            see("size", m.basisSize(round));
            for (int index = 0; index < m.basisSize(round); index++) {
                for (int what = 0; what < 3; what++) {
                    Check.due("basis of round " + round, x.basis(round, index, what), m.basis(round, index, what));
                }
            }
        }
    }

    private static void lastBasis(String commands, Model m) {
        int last = m.lastRound();
        for (int index = 0; index < m.basisSize(last); index++) {
            Subject x = Make.machine(commands);
            for (int channel = 0; channel < 2; channel++) {
                int length = m.basis(last, index, 1 + channel);
                see("length", length);
                for (int place = 0; place < length; place++) {
                    Check.due("basisLetter", x.basisLetter(index, channel, place), m.basisLetter(index, channel, place));
                }
            }
        }
        Subject x = Make.machine(commands);
        Check.due("coveringStates", x.coveringStates(), m.coveringStates());
        for (int state = 0; state < 6; state++) {
            Check.due("least", x.least(state), m.least(state));
        }
    }

    private static void covering(Subject x, Model m) {
        int distance = m.distance();
        Check.due("distance", x.distance(), distance);
        see("distance", distance);
        for (int i = 0; i <= distance; i++) {
            int index = i;
            Check.due("covering", () -> x.covering(index), Check.answer(() -> m.covering(index)));
            Check.due("lost", () -> x.lost(index), Check.answer(() -> m.lost(index)));
            see("lost", Check.answer(() -> m.lost(index)));
        }
    }
}
