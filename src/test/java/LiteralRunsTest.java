import java.util.ArrayList;
import java.util.HashSet;
import java.util.List;
import java.util.Set;

/**
 * Runs with really all losses before and after each firing, on small machines: what the analysis and the few
 * firings tell must be what these runs show.
 */
public final class LiteralRunsTest {
    private static final int MACHINES = 3000;
    private static final int FIRINGS = 4;

    private static long seed;
    private static int covered = 0;

    public static void main(String[] args) {
        for (int i = 0; i < MACHINES; i++) {
            seed = i * 15485863L + 5;
            compare(i);
        }
        Check.due("many runs cover a goal behind some firings", covered > 300, true);
        Check.finish("LiteralRunsTest");
    }

    private static int below(int bound) {
        seed = seed * 6364136223846793005L + 1442695040888963407L;
        return (int) ((seed >>> 33) % bound);
    }

    private static void compare(int number) {
        Subject x = new Subject();
        Model m = new Model();
        int states = 2 + below(3);
        int count = 2 + below(4);
        for (int i = 0; i < count; i++) {
            int p = below(states);
            int q = below(states);
            int action = below(3);
            int channel = below(2);
            int letter = below(2);
            x.addTransition(p, q, action, channel, letter);
            m.addTransition(p, q, action, channel, letter);
        }
        present(x, m, below(states), below(3));
        x.addGoal();
        m.addGoal();
        present(x, m, below(states), below(6));
        compareRuns("machine " + number, x, m);
    }

    private static void present(Subject x, Model m, int state, int length) {
        x.setState(state);
        m.setState(state);
        for (int channel = 0; channel < 2; channel++) {
            x.clear(channel);
            m.clear(channel);
        }
        for (int i = 0; i < length; i++) {
            int channel = below(2);
            int letter = below(2);
            x.put(channel, letter);
            m.put(channel, letter);
        }
    }

    private static void compareRuns(String name, Subject x, Model m) {
        Set<Model.Config> reached = withLosses(Set.of(m.present));
        int distance = covers(reached, m) ? 0 : -1;
        for (int n = 0; n <= FIRINGS; n++) {
            int states = 0;
            for (Model.Config config : reached) {
                states |= 1 << config.state();
            }
            Check.due(name + ": statesAfter(" + n + ")", x.statesAfter(n), states);
            Set<Model.Config> next = new HashSet<>();
            for (int t = 0; t < m.transitions.size(); t++) {
                Set<Model.Config> after = firedFrom(reached, m.transitions.get(t));
                if (n < FIRINGS) {
                    Check.due(name + ": isLast(" + t + ", " + (n + 1) + ")", x.isLast(t, n + 1), !after.isEmpty());
                }
                next.addAll(after);
            }
            reached = next;
            if (distance < 0 && n < FIRINGS && covers(reached, m)) {
                distance = n + 1;
            }
        }
        if (x.analyze() == 1) {
            int known = x.distance();
            Check.due(name + ": distance", known > FIRINGS ? -1 : known, distance);
            coveringRun(name, x, m, distance);
        }
    }

    private static void coveringRun(String name, Subject x, Model m, int distance) {
        if (distance < 1) {
            return;
        }
        covered++;
        List<Integer> transitions = new ArrayList<>();
        Check.due(name + ": a run", firstRun(withLosses(Set.of(m.present)), m, distance, transitions), true);
        Model.Config here = m.present;
        for (int i = 0; i < distance; i++) {
            Check.due(name + ": covering(" + i + ")", x.covering(i), transitions.get(i));
            Model.Transition t = m.transitions.get(transitions.get(i));
            Check.due(name + ": lost(" + i + ")", x.lost(i), Model.losses(t, here));
            here = Model.fired(t, here);
        }
    }

    /** Tries the sequences of transitions in lexicographic order. */
    private static boolean firstRun(Set<Model.Config> reached, Model m, int firings, List<Integer> transitions) {
        if (firings == 0) {
            return covers(reached, m);
        }
        for (int t = 0; t < m.transitions.size(); t++) {
            Set<Model.Config> next = firedFrom(reached, m.transitions.get(t));
            transitions.add(t);
            if (firstRun(next, m, firings - 1, transitions)) {
                return true;
            }
            transitions.remove(transitions.size() - 1);
        }
        return false;
    }

    private static Set<Model.Config> firedFrom(Set<Model.Config> reached, Model.Transition t) {
        Set<Model.Config> after = new HashSet<>();
        for (Model.Config config : reached) {
            if (Model.canFire(t, config, false)) {
                after.add(Model.fired(t, config));
            }
        }
        return withLosses(after);
    }

    private static Set<Model.Config> withLosses(Set<Model.Config> configs) {
        Set<Model.Config> all = new HashSet<>();
        for (Model.Config config : configs) {
            if (!all.contains(config)) {
                for (String first : new HashSet<>(Model.atPlaces(config.first()))) {
                    for (String second : new HashSet<>(Model.atPlaces(config.second()))) {
                        all.add(new Model.Config(config.state(), first, second));
                    }
                }
            }
        }
        return all;
    }

    private static boolean covers(Set<Model.Config> configs, Model m) {
        for (Model.Config config : configs) {
            for (Model.Config goal : m.goals) {
                if (Model.below(goal, config)) {
                    return true;
                }
            }
        }
        return false;
    }
}
